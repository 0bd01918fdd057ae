abbrev rm_t_X2_withPart : Room := ({ frames := 1, cells := 0, slots := 0, locals := 21 } : Room)
set_option maxHeartbeats 4000000 in
set_option maxRecDepth 100000 in
theorem t_X2_withPart (l : Launch) (D : va_G) (ty : g_T3) (k0 kf ko ka kb kt kl kp : Nat) (es : List Ent) (hwf : wfE es) (hl0 : es.length ≤ 2000) (en : Nat) (he : en < es.length) (pF : Nat → Int32) (n : Nat) (gp : Nat → Nat) (hg : pOk es en n gp) (hpF : ∀ i, i < n → pF i = nI (gp i)) (pv : Int32) (hpv : pv = -1 ∨ ∃ q, pv = nI q ∧ rch es en q) : g_U l yX2_withPart wsX2_withPart rm_t_X2_withPart D ty g_X0 [.ref k0, .int (nI n), .int pv] [(k0, .inr (1, [.int (nI es.length), .ref kf, .ref ko, .ref ka, .ref kb, .ref kt, .ref kl, .ref kp])), (kp, .inl (ty.1, 13, .inl pF))] 0 0 (g_ui (fun r w => ∃ (pF2 : Nat → Int32) (n2 : Nat) (g2 : Nat → Nat), r = nI n2 ∧ pOk es en n2 g2 ∧ (∀ i, i < n2 → pF2 i = nI (g2 i)) ∧ n ≤ n2 ∧ (∀ i, i < n → g2 i = gp i) ∧ (pv = -1 ∨ ∃ i, i < n2 ∧ pv = nI (g2 i)) ∧ w = [(k0, .inr (1, [.int (nI es.length), .ref kf, .ref ko, .ref ka, .ref kb, .ref kt, .ref kl, .ref kp])), (kp, .inl (ty.1, 13, .inl pF2))])) := by
  refine g_ofUi (cc := cX2_withPart) (nL := 4) (own := RX2) (by decide) rfl rfl g_X0_ok (Nat.le_of_ble_eq_true rfl) ?_
  intro p e s m args below meth c Q A C hA hX hin hR
  refine g_lv (lv' := [(0, .ref k0), (1, .int (nI n)), (2, .int pv)]) [0, 1, 2] rfl ?_
  have hn13 := pOk_13 hwf hl0 he hg
  refine g_aload_n C dX2_withPart_0 0 rfl rfl ?_
  refine g_iload_n C dX2_withPart_1 2 rfl rfl ?_
  refine g_callPV C ⟨g_X0_ok, trivial⟩ (t_X2_has l D ty k0 kf ko ka kb kt kl kp es.length (by omega) pv) rfl gX2_withPart_X2_has 1 (by decide +kernel) rfl ⟨rfl, rfl⟩ ⟨Nat.le_of_ble_eq_true rfl, Nat.le_of_ble_eq_true rfl⟩ (rest := []) (q0 := 0) rfl rfl [0] rfl (Nat.le_of_ble_eq_true rfl) dX2_withPart_2 ⟨Nat.le_of_ble_eq_true rfl, Nat.le_of_ble_eq_true rfl⟩ rfl (g_ki (fun r hr => ?_))
  subst hr
  have := bt_lt (hsB pv es.length)
  refine g_if_eqN C dX2_withPart_5 (tgt := 14) (by decide) (by omega) (fun h5 => ?_) (fun h5 => ?_)
  · skip
    have hpn := pv_m1 hl0 he hpv (hs_0 h5)
    refine g_iload_n C dX2_withPart_14 1 rfl rfl ?_
    refine hR _ _ _ _ _ _ dX2_withPart_15 ?_ (by omega) (by omega)
    first | exact ⟨pF, n, gp, rfl, hg, hpF, Nat.le_refl _, fun _ _ => rfl, Or.inl hpn, rfl⟩ | exact ⟨pF, n, gp, rfl, hg, hpF, Nat.le_refl _, fun _ _ => rfl, Or.inr hin, rfl⟩
  · skip
    obtain ⟨q, hq, rfl⟩ := hs_1 h5
    have hrq := pv_q hl0 he hq hpv
    refine g_iload_n C dX2_withPart_8 1 rfl rfl ?_
    refine g_bipush C dX2_withPart_9 (v := (nI 13)) (by decide) ?_
    refine g_icmp_ltN C dX2_withPart_11 (tgt := 16) (by decide) (by omega) (by omega) (fun h11 => ?_) (fun h11 => ?_)
    · skip
      refine g_iconst C dX2_withPart_16 (v := (nI 0)) (by decide) ?_
      refine g_istore_n C dX2_withPart_17 rfl (by decide) (lv' := [(3, .int (nI 0)), (0, .ref k0), (1, .int (nI n)), (2, .int (nI q))]) rfl ?_
      have L18 : ∀ (n9 : Nat) (j : Nat), n - j < n9 → (j ≤ n) → (∀ i, i < j → gp i ≠ q) → gG (g_IU A D s) p l e rm_t_X2_withPart s m args below meth c Q 4 0 0 18 [(3, .int (nI j)), (0, .ref k0), (1, .int (nI n)), (2, .int (nI q))] [] [(k0, .inr (1, [.int (nI es.length), .ref kf, .ref ko, .ref ka, .ref kb, .ref kt, .ref kl, .ref kp])), (kp, .inl (ty.1, 13, .inl pF))] := by
        intro n9
        induction n9 with
        | zero => intro j hn; exact absurd hn (Nat.not_lt_zero _)
        | succ n9 ih18 =>
          intro j hn18 hj hno
          refine g_iload_n C dX2_withPart_18 0 rfl rfl ?_
          refine g_iload_n C dX2_withPart_19 2 rfl rfl ?_
          refine g_icmp_geN C dX2_withPart_20 (tgt := 41) (by decide) (by omega) (by omega) (fun h20 => ?_) (fun h20 => ?_)
          · skip
            have hjn : j = n := by omega
            refine g_aload_n C dX2_withPart_41 1 rfl rfl ?_
            refine g_get C 0 rfl rfl 7 (by decide) (fun _ h => (List.mem_cons_of_mem _ (List.mem_append_right _ h))) 1 rfl rfl rfl dX2_withPart_42 ?_
            refine g_iload_n C dX2_withPart_45 2 rfl rfl ?_
            refine g_iload_n C dX2_withPart_46 3 rfl rfl ?_
            refine g_iast C 1 rfl (by omega) (by omega) (f' := upd pF n (nI q)) rfl (ws' := [(k0, .inr (1, [.int (nI es.length), .ref kf, .ref ko, .ref ka, .ref kb, .ref kt, .ref kl, .ref kp])), (kp, .inl (ty.1, 13, .inl (upd pF n (nI q))))]) rfl dX2_withPart_47 ?_
            refine g_iload_n C dX2_withPart_48 2 rfl rfl ?_
            refine g_iconst C dX2_withPart_49 (v := (nI 1)) (by decide) ?_
            refine g_iadd C dX2_withPart_50 (v := (nI (n + 1))) (nI_1 n) ?_
            refine hR _ _ _ _ _ _ dX2_withPart_51 ?_ (by omega) (by omega)
            rw [hjn] at hno
            refine ⟨_, n + 1, va_up gp n q, rfl, pOk_put hg hrq hno, fun i hi => ?_, by omega, fun i hi => va_up_ne _ _ (by omega), Or.inr ⟨n, by omega, by rw [va_up_self]⟩, rfl⟩
            rcases Nat.lt_or_ge i n with z | z
            · rw [pk_un (by omega), va_up_ne _ _ (by omega)]; exact hpF i z
            · rw [show i = n by omega, pk_us, va_up_self]
          · skip
            refine g_aload_n C dX2_withPart_23 1 rfl rfl ?_
            refine g_get C 0 rfl rfl 7 (by decide) (fun _ h => (List.mem_cons_of_mem _ (List.mem_append_right _ h))) 1 rfl rfl rfl dX2_withPart_24 ?_
            refine g_iload_n C dX2_withPart_27 0 rfl rfl ?_
            refine g_iald C (v := (nI (gp j))) 1 rfl (by omega) (by omega) (hpF j (by omega)) dX2_withPart_28 ?_
            refine g_iload_n C dX2_withPart_29 3 rfl rfl ?_
            have hgj := rch_lt he (hg.2 j (by omega))
            refine g_icmp_neN C dX2_withPart_30 (tgt := 35) (by decide) (by omega) (by omega) (fun h30 => ?_) (fun h30 => ?_)
            · skip
              refine g_iinc C dX2_withPart_35 0 rfl (v := (nI (j + 1))) (nI_1 j) (by decide) (lv' := [(3, .int (nI (j + 1))), (0, .ref k0), (1, .int (nI n)), (2, .int (nI q))]) rfl ?_
              refine g_goto C dX2_withPart_38 (tgt := 18) (by decide) ?_
              exact ih18 (j + 1) (by omega) (by omega) (fun i h => (Nat.lt_or_ge i j).elim (hno i) (fun z => by rw [show i = j by omega]; exact h30))
            · skip
              refine g_iload_n C dX2_withPart_33 2 rfl rfl ?_
              refine hR _ _ _ _ _ _ dX2_withPart_34 ?_ (by omega) (by omega)
              exact ⟨pF, n, gp, rfl, hg, hpF, Nat.le_refl _, fun _ _ => rfl, Or.inr ⟨j, by omega, by rw [h30]⟩, rfl⟩
      exact L18 _ 0 (Nat.lt_succ_self _) (by omega) (fun i h => absurd h (Nat.not_lt_zero i))
    · skip
      have hin : ∃ i, i < n ∧ nI q = nI (gp i) := pin (fun z => absurd (pOk_13 hwf hl0 he (pOk_put hg hrq z)) (by omega))
      refine g_iload_n C dX2_withPart_14 1 rfl rfl ?_
      refine hR _ _ _ _ _ _ dX2_withPart_15 ?_ (by omega) (by omega)
      first | exact ⟨pF, n, gp, rfl, hg, hpF, Nat.le_refl _, fun _ _ => rfl, Or.inl hpn, rfl⟩ | exact ⟨pF, n, gp, rfl, hg, hpF, Nat.le_refl _, fun _ _ => rfl, Or.inr hin, rfl⟩

abbrev rm_t_X2_countParts : Room := ({ frames := 2, cells := 0, slots := 0, locals := 44 } : Room)
set_option maxHeartbeats 4000000 in
set_option maxRecDepth 100000 in
theorem t_X2_countParts (l : Launch) (D : va_G) (ty : g_T3) (k0 kf ko ka kb kt kl kp : Nat) (es : List Ent) (fF : Nat → Int64) (oF aF bF tF sF pF : Nat → Int32) (hw : rowOk es fF oF aF bF sF) (hwf : wfE es) (en : Nat) (he : en < es.length) (pF : Nat → Int32) : g_U l yX2_countParts wsX2_countParts rm_t_X2_countParts D ty g_X0 [.ref k0, .int (nI en)] [(k0, .inr (1, [.int (nI es.length), .ref kf, .ref ko, .ref ka, .ref kb, .ref kt, .ref kl, .ref kp])), (ko, .inl (ty.1, 2000, .inl oF)), (ka, .inl (ty.1, 2000, .inl aF)), (kb, .inl (ty.1, 2000, .inl bF)), (kp, .inl (ty.1, 13, .inl pF))] 0 0 (g_ui (fun r w => ∃ (n : Nat) (pF2 : Nat → Int32), r = nI n ∧ n ≤ 13 ∧ prt es en n ∧ w = [(k0, .inr (1, [.int (nI es.length), .ref kf, .ref ko, .ref ka, .ref kb, .ref kt, .ref kl, .ref kp])), (ko, .inl (ty.1, 2000, .inl oF)), (ka, .inl (ty.1, 2000, .inl aF)), (kb, .inl (ty.1, 2000, .inl bF)), (kp, .inl (ty.1, 13, .inl pF2))])) := by
  refine g_ofUi (cc := cX2_countParts) (nL := 5) (own := RX2) (by decide) rfl rfl g_X0_ok (Nat.le_of_ble_eq_true rfl) ?_
  intro p e s m args below meth c Q A C hA hX hin hR
  refine g_lv (lv' := [(0, .ref k0), (1, .int (nI en))]) [0, 1] rfl ?_
  have hl0 := hw.2.2.2
  refine g_aload_n C dX2_countParts_0 0 rfl rfl ?_
  refine g_iconst C dX2_countParts_1 (v := (nI 0)) (by decide) ?_
  refine g_iload_n C dX2_countParts_2 1 rfl rfl ?_
  refine g_callUV C ⟨g_X0_ok, trivial⟩ (t_X2_withPart l D ty k0 kf ko ka kb kt kl kp es hwf hl0 en he pF 0 (fun _ => 0) ⟨fun i j h => absurd h (Nat.not_lt_zero i), fun i h => absurd h (Nat.not_lt_zero i)⟩ (fun i h => absurd h (Nat.not_lt_zero i)) (nI en) (Or.inr ⟨en, rfl, rch_self⟩)) rfl gX2_countParts_X2_withPart 2 (by decide +kernel) rfl ⟨rfl, rfl⟩ ⟨Nat.le_of_ble_eq_true rfl, Nat.le_of_ble_eq_true rfl⟩ (rest := []) (q0 := 0) rfl rfl hA [0, 4] [1, 2, 3] rfl rfl rfl (wr := [(ko, .inl (ty.1, 2000, .inl oF)), (ka, .inl (ty.1, 2000, .inl aF)), (kb, .inl (ty.1, 2000, .inl bF))]) rfl rfl rfl (Nat.le_of_ble_eq_true rfl) dX2_countParts_3 ⟨Nat.le_of_ble_eq_true rfl, Nat.le_of_ble_eq_true rfl⟩ rfl (g_kui (fun r w hr => ?_))
  obtain ⟨pF3, n3, g3, rfl, hg3, hpF3, hle3, hex3, hin3, rfl⟩ := hr
  have hn133 := pOk_13 hwf hl0 he hg3
  refine g_ws (ws' := [(k0, .inr (1, [.int (nI es.length), .ref kf, .ref ko, .ref ka, .ref kb, .ref kt, .ref kl, .ref kp])), (ko, .inl (ty.1, 2000, .inl oF)), (ka, .inl (ty.1, 2000, .inl aF)), (kb, .inl (ty.1, 2000, .inl bF)), (kp, .inl (ty.1, 13, .inl pF3))]) [3, 0, 1, 2, 4] rfl rfl rfl ?_
  have h03 : ∃ i, i < n3 ∧ en = g3 i := by
    rcases hin3 with z | ⟨i, hi, z⟩
    · exact absurd z (nI_m1 (by omega))
    · exact ⟨i, hi, nI_ij (by omega) (by have := rch_lt he (hg3.2 i hi); omega) z⟩
  refine g_istore_n C dX2_countParts_6 rfl (by decide) (lv' := [(2, .int (nI n3)), (0, .ref k0), (1, .int (nI en))]) rfl ?_
  refine g_iconst C dX2_countParts_7 (v := (nI 0)) (by decide) ?_
  refine g_istore_n C dX2_countParts_8 rfl (by decide) (lv' := [(3, .int (nI 0)), (2, .int (nI n3)), (0, .ref k0), (1, .int (nI en))]) rfl ?_
  have L9 : ∀ (n9 : Nat) (k n : Nat) (gp : Nat → Nat) (pF1 : Nat → Int32), 13 - k < n9 → (k ≤ n) → (pOk es en n gp) → (∀ i, i < n → pF1 i = nI (gp i)) → (∃ i, i < n ∧ en = gp i) → (∀ i, i < k → ∀ a, chd es (gp i) a → ∃ j, j < n ∧ a = gp j) → gG (g_IU A D s) p l e rm_t_X2_countParts s m args below meth c Q 5 0 0 9 [(3, .int (nI k)), (2, .int (nI n)), (0, .ref k0), (1, .int (nI en))] [] [(k0, .inr (1, [.int (nI es.length), .ref kf, .ref ko, .ref ka, .ref kb, .ref kt, .ref kl, .ref kp])), (ko, .inl (ty.1, 2000, .inl oF)), (ka, .inl (ty.1, 2000, .inl aF)), (kb, .inl (ty.1, 2000, .inl bF)), (kp, .inl (ty.1, 13, .inl pF1))] := by
    intro n9
    induction n9 with
    | zero => intro k n gp pF1 hn; exact absurd hn (Nat.not_lt_zero _)
    | succ n9 ih9 =>
      intro k n gp pF1 hn9 hk hg hpF h0 hc
      have hn13 := pOk_13 hwf hl0 he hg
      refine g_iload_n C dX2_countParts_9 0 rfl rfl ?_
      refine g_iload_n C dX2_countParts_10 1 rfl rfl ?_
      refine g_icmp_geN C dX2_countParts_11 (tgt := 70) (by decide) (by omega) (by omega) (fun h11 => ?_) (fun h11 => ?_)
      · skip
        have hkn : k = n := by omega
        refine g_iload_n C dX2_countParts_70 1 rfl rfl ?_
        refine hR _ _ _ _ _ _ dX2_countParts_71 ?_ (by omega) (by omega)
        exact ⟨n, pF1, rfl, hn13, prt_of hg h0 (fun i hi a hc9 => hc i (by omega) a hc9), rfl⟩
      · skip
        have hgk := rch_lt he (hg.2 k (by omega))
        refine g_iload_n C dX2_countParts_14 0 rfl rfl ?_
        refine g_bipush C dX2_countParts_15 (v := (nI 13)) (by decide) ?_
        refine g_icmp_geN C dX2_countParts_17 (tgt := 70) (by decide) (by omega) (by omega) (fun h17 => ?_) (fun h17 => ?_)
        · skip
          have hkn : k = n := by omega
          refine g_iload_n C dX2_countParts_70 1 rfl rfl ?_
          refine hR _ _ _ _ _ _ dX2_countParts_71 ?_ (by omega) (by omega)
          exact ⟨n, pF1, rfl, hn13, prt_of hg h0 (fun i hi a hc9 => hc i (by omega) a hc9), rfl⟩
        · skip
          refine g_aload_n C dX2_countParts_20 2 rfl rfl ?_
          refine g_get C 0 rfl rfl 7 (by decide) (fun _ h => (List.mem_cons_of_mem _ (List.mem_append_right _ h))) 1 rfl rfl rfl dX2_countParts_21 ?_
          refine g_iload_n C dX2_countParts_24 0 rfl rfl ?_
          refine g_iald C (v := (nI (gp k))) 4 rfl (by omega) (by omega) (hpF k (by omega)) dX2_countParts_25 ?_
          refine g_istore C dX2_countParts_26 (by decide) (lv' := [(4, .int (nI (gp k))), (3, .int (nI k)), (2, .int (nI n)), (0, .ref k0), (1, .int (nI en))]) rfl ?_
          refine g_aload_n C dX2_countParts_28 3 rfl rfl ?_
          refine g_get C 0 rfl rfl 2 (by decide) (fun _ h => (List.mem_cons_of_mem _ (List.mem_append_right _ h))) 2 rfl rfl rfl dX2_countParts_29 ?_
          refine g_iload C dX2_countParts_32 0 rfl ?_
          refine g_iald C (v := (eO es (gp k))) 1 rfl (by omega) (by omega) (hw.1 _ hgk).2.1 dX2_countParts_34 ?_
          refine g_if_lt C dX2_countParts_35 (tgt := 64) (by decide) (fun h35 => ?_) (fun h35 => ?_)
          · skip
            refine g_iinc C dX2_countParts_64 1 rfl (v := (nI (k + 1))) (nI_1 k) (by decide) (lv' := [(3, .int (nI (k + 1))), (4, .int (nI (gp k))), (2, .int (nI n)), (0, .ref k0), (1, .int (nI en))]) rfl ?_
            refine g_goto C dX2_countParts_67 (tgt := 9) (by decide) ?_
            refine g_lv [0, 2, 3, 4] rfl ?_
            exact ih9 (k + 1) n gp pF1 (by omega) (by omega) hg hpF h0 (fun i hi a hc9 => (Nat.lt_or_ge i k).elim (fun z => hc i z a hc9) (fun z => by rw [show i = k by omega] at hc9; exact (chd_no h35 hc9).elim))
          · skip
            obtain ⟨⟨a9, hca, hea⟩, hpb⟩ := wf_par hwf hl0 hgk h35
            refine g_aload_n C dX2_countParts_38 3 rfl rfl ?_
            refine g_iload_n C dX2_countParts_39 2 rfl rfl ?_
            refine g_aload_n C dX2_countParts_40 3 rfl rfl ?_
            refine g_get C 0 rfl rfl 3 (by decide) (fun _ h => (List.mem_cons_of_mem _ (List.mem_append_right _ h))) 3 rfl rfl rfl dX2_countParts_41 ?_
            refine g_iload C dX2_countParts_44 0 rfl ?_
            refine g_iald C (v := (eA es (gp k))) 2 rfl (by omega) (by omega) (hw.1 _ hgk).2.2.1 dX2_countParts_46 ?_
            refine g_callUV C ⟨g_X0_ok, trivial⟩ (t_X2_withPart l D ty k0 kf ko ka kb kt kl kp es hwf hl0 en he pF1 n gp hg hpF (eA es (gp k)) (Or.inr ⟨a9, hea, rch_step (hg.2 k (by omega)) hca⟩)) rfl gX2_countParts_X2_withPart 2 (by decide +kernel) rfl ⟨rfl, rfl⟩ ⟨Nat.le_of_ble_eq_true rfl, Nat.le_of_ble_eq_true rfl⟩ (rest := []) (q0 := 0) rfl rfl hA [0, 4] [1, 2, 3] rfl rfl rfl (wr := [(ko, .inl (ty.1, 2000, .inl oF)), (ka, .inl (ty.1, 2000, .inl aF)), (kb, .inl (ty.1, 2000, .inl bF))]) rfl rfl rfl (Nat.le_of_ble_eq_true rfl) dX2_countParts_47 ⟨Nat.le_of_ble_eq_true rfl, Nat.le_of_ble_eq_true rfl⟩ rfl (g_kui (fun r w hr => ?_))
            obtain ⟨pF47, n47, g47, rfl, hg47, hpF47, hle47, hex47, hin47, rfl⟩ := hr
            have hn1347 := pOk_13 hwf hl0 he hg47
            refine g_ws (ws' := [(k0, .inr (1, [.int (nI es.length), .ref kf, .ref ko, .ref ka, .ref kb, .ref kt, .ref kl, .ref kp])), (ko, .inl (ty.1, 2000, .inl oF)), (ka, .inl (ty.1, 2000, .inl aF)), (kb, .inl (ty.1, 2000, .inl bF)), (kp, .inl (ty.1, 13, .inl pF47))]) [3, 0, 1, 2, 4] rfl rfl rfl ?_
            refine g_istore_n C dX2_countParts_50 rfl (by decide) (lv' := [(2, .int (nI n47)), (4, .int (nI (gp k))), (3, .int (nI k)), (0, .ref k0), (1, .int (nI en))]) rfl ?_
            refine g_aload_n C dX2_countParts_51 3 rfl rfl ?_
            refine g_iload_n C dX2_countParts_52 0 rfl rfl ?_
            refine g_aload_n C dX2_countParts_53 3 rfl rfl ?_
            refine g_get C 0 rfl rfl 4 (by decide) (fun _ h => (List.mem_cons_of_mem _ (List.mem_append_right _ h))) 4 rfl rfl rfl dX2_countParts_54 ?_
            refine g_iload C dX2_countParts_57 1 rfl ?_
            refine g_iald C (v := (eB es (gp k))) 3 rfl (by omega) (by omega) (hw.1 _ hgk).2.2.2 dX2_countParts_59 ?_
            refine g_callUV C ⟨g_X0_ok, trivial⟩ (t_X2_withPart l D ty k0 kf ko ka kb kt kl kp es hwf hl0 en he pF47 n47 g47 hg47 hpF47 (eB es (gp k)) (hpb.elim Or.inl (fun ⟨b9, hcb, heb⟩ => Or.inr ⟨b9, heb, rch_step (hg.2 k (by omega)) hcb⟩))) rfl gX2_countParts_X2_withPart 2 (by decide +kernel) rfl ⟨rfl, rfl⟩ ⟨Nat.le_of_ble_eq_true rfl, Nat.le_of_ble_eq_true rfl⟩ (rest := []) (q0 := 0) rfl rfl hA [0, 4] [1, 2, 3] rfl rfl rfl (wr := [(ko, .inl (ty.1, 2000, .inl oF)), (ka, .inl (ty.1, 2000, .inl aF)), (kb, .inl (ty.1, 2000, .inl bF))]) rfl rfl rfl (Nat.le_of_ble_eq_true rfl) dX2_countParts_60 ⟨Nat.le_of_ble_eq_true rfl, Nat.le_of_ble_eq_true rfl⟩ rfl (g_kui (fun r w hr => ?_))
            obtain ⟨pF60, n60, g60, rfl, hg60, hpF60, hle60, hex60, hin60, rfl⟩ := hr
            have hn1360 := pOk_13 hwf hl0 he hg60
            refine g_ws (ws' := [(k0, .inr (1, [.int (nI es.length), .ref kf, .ref ko, .ref ka, .ref kb, .ref kt, .ref kl, .ref kp])), (ko, .inl (ty.1, 2000, .inl oF)), (ka, .inl (ty.1, 2000, .inl aF)), (kb, .inl (ty.1, 2000, .inl bF)), (kp, .inl (ty.1, 13, .inl pF60))]) [3, 0, 1, 2, 4] rfl rfl rfl ?_
            have hall60 : ∀ i, i < k + 1 → ∀ a, chd es (gp i) a → ∃ j, j < n60 ∧ a = g60 j := by
              intro i hi a hc9
              rcases Nat.lt_or_ge i k with z | z
              · obtain ⟨j, hj, q⟩ := hc i z a hc9
                exact ⟨j, by omega, by rw [hex60 j (by omega), hex47 j hj]; exact q⟩
              · rw [show i = k by omega] at hc9
                have ha9 := hc9.1
                rcases hc9.2.2 with q | q
                · rcases hin47 with y | ⟨j, hj, y⟩
                  · rw [hea] at y; exact absurd y (nI_m1 (by have := hca.1; omega))
                  · exact ⟨j, by omega, by rw [hex60 j hj]; exact nI_ij (by omega) (by have := rch_lt he (hg47.2 j hj); omega) (q.symm.trans y)⟩
                · rcases hin60 with y | ⟨j, hj, y⟩
                  · exact absurd (q.symm.trans y) (nI_m1 (by omega))
                  · exact ⟨j, hj, nI_ij (by omega) (by have := rch_lt he (hg60.2 j hj); omega) (q.symm.trans y)⟩
            refine g_istore_n C dX2_countParts_63 rfl (by decide) (lv' := [(2, .int (nI n60)), (4, .int (nI (gp k))), (3, .int (nI k)), (0, .ref k0), (1, .int (nI en))]) rfl ?_
            refine g_iinc C dX2_countParts_64 2 rfl (v := (nI (k + 1))) (nI_1 k) (by decide) (lv' := [(3, .int (nI (k + 1))), (2, .int (nI n60)), (4, .int (nI (gp k))), (0, .ref k0), (1, .int (nI en))]) rfl ?_
            refine g_goto C dX2_countParts_67 (tgt := 9) (by decide) ?_
            refine g_lv [0, 1, 3, 4] rfl ?_
            exact ih9 (k + 1) n60 g60 pF60 (by omega) (by omega) hg60 hpF60 (by obtain ⟨i, hi, q⟩ := h0; exact ⟨i, by omega, by rw [hex60 i (by omega), hex47 i hi]; exact q⟩) (fun i hi a hc9 => by rw [hex60 i (by omega), hex47 i (by omega)] at hc9; exact hall60 i hi a hc9)
  exact L9 _ 0 n3 g3 pF3 (Nat.lt_succ_self _) (by omega) hg3 hpF3 h03 (fun i h => absurd h (Nat.not_lt_zero i))

abbrev rm_t_X3_addTo : Room := ({ frames := 1, cells := 0, slots := 0, locals := 23 } : Room)
set_option maxHeartbeats 4000000 in
set_option maxRecDepth 100000 in
theorem t_X3_addTo (l : Launch) (D : va_G) (ty : g_T3) (s0 sp sa sc : Nat) (p2 : Nat → Nat) (al cs : Nat → Bool) (hp : (∀ k, k < 10 → 1 ≤ p2 k ∧ p2 k ≤ 5) ∧ p2 10 ≤ 5) (d : Int64) : g_P l yX3_addTo wsX3_addTo rm_t_X3_addTo D ty g_XN [.ref s0, .long d] [(s0, .inr (2, [.ref sp, .ref sa, .ref sc])), (sp, .inl (ty.1, 11, .inl (zN p2))), (sa, .inl (ty.2.2, 10, .inl (zB al))), (sc, .inl (ty.2.2, 16, .inl (zB cs)))] (g_pl (fun r => r = dgB cs (dg1 (dgQ p2 al d 10) (lN (p2 10))) 16)) := by
  refine g_ofPl (cc := cX3_addTo) (nL := 9) (own := RX3) (by decide) rfl rfl g_XN_ok (Nat.le_of_ble_eq_true rfl) ?_
  intro p e s m args below meth c Q C hX hR
  refine g_lv (lv' := [(0, .ref s0), (1, .long d)]) [0, 1] rfl ?_
  refine g_lload_n C dX3_addTo_0 1 rfl rfl ?_
  refine g_lstore_n C dX3_addTo_1 rfl (by decide) (lv' := [(3, .long d), (0, .ref s0), (1, .long d)]) rfl ?_
  refine g_iconst C dX3_addTo_2 (v := (nI 0)) (by decide) ?_
  refine g_istore C dX3_addTo_3 (by decide) (lv' := [(5, .int (nI 0)), (3, .long d), (0, .ref s0), (1, .long d)]) rfl ?_
  have L5 : ∀ (n9 : Nat) (i : Nat), 10 - i < n9 → (i ≤ 10) → gG (g_IP D s [(s0, .inr (2, [.ref sp, .ref sa, .ref sc])), (sp, .inl (ty.1, 11, .inl (zN p2))), (sa, .inl (ty.2.2, 10, .inl (zB al))), (sc, .inl (ty.2.2, 16, .inl (zB cs)))]) p l e rm_t_X3_addTo s m args below meth c Q 9 0 0 5 [(5, .int (nI i)), (3, .long (dgQ p2 al d i)), (0, .ref s0), (1, .long d)] [] [(s0, .inr (2, [.ref sp, .ref sa, .ref sc])), (sp, .inl (ty.1, 11, .inl (zN p2))), (sa, .inl (ty.2.2, 10, .inl (zB al))), (sc, .inl (ty.2.2, 16, .inl (zB cs)))] := by
    intro n9
    induction n9 with
    | zero => intro i hn; exact absurd hn (Nat.not_lt_zero _)
    | succ n9 ih5 =>
      intro i hn5 hi
      refine g_iload C dX3_addTo_5 0 rfl ?_
      refine g_bipush C dX3_addTo_7 (v := (nI 10)) (by decide) ?_
      refine g_icmp_geN C dX3_addTo_9 (tgt := 51) (by decide) (by omega) (by omega) (fun h9 => ?_) (fun h9 => ?_)
      · skip
        obtain rfl : i = 10 := by omega
        refine g_lload_n C dX3_addTo_51 1 rfl rfl ?_
        refine g_aload_n C dX3_addTo_52 2 rfl rfl ?_
        refine g_callPV C ⟨g_X0_ok, trivial⟩ (t_X3_priceOfConstants l D ty s0 sp sa sc p2 al cs) rfl gX3_addTo_X3_priceOfConstants 0 (by decide +kernel) rfl ⟨rfl, rfl⟩ ⟨Nat.le_of_ble_eq_true rfl, Nat.le_of_ble_eq_true rfl⟩ (rest := [.long (dgQ p2 al d 10)]) (q0 := 0) rfl rfl [0, 1, 2, 3] rfl (Nat.le_of_ble_eq_true rfl) dX3_addTo_53 ⟨Nat.le_of_ble_eq_true rfl, Nat.le_of_ble_eq_true rfl⟩ rfl (g_ki (fun r hr => ?_))
        subst hr
        refine g_i2l C dX3_addTo_56 (v := (lN (p2 10))) (nI_l (by have := hp.2; omega)) ?_
        refine g_callPSN C ⟨g_X0_ok, trivial⟩ (t_X5_added l D ty (dgQ p2 al d 10) (lN (p2 10))) rfl (hX.2.1 2 (by decide)) ggX3_addTo_X5_added 5 4 rfl rfl 2 (by decide +kernel) rfl ⟨rfl, rfl⟩ ⟨Nat.le_of_ble_eq_true rfl, Nat.le_of_ble_eq_true rfl⟩ (rest := []) [] rfl (Nat.le_of_ble_eq_true rfl) dX3_addTo_57 ⟨Nat.le_of_ble_eq_true rfl, Nat.le_of_ble_eq_true rfl⟩ rfl (g_kl (fun r hr => ?_))
        subst hr
        rw [show (dgQ p2 al d 10) * 31 + (lN (p2 10)) = dg1 (dgQ p2 al d 10) (lN (p2 10)) from rfl]
        refine g_lstore_n C dX3_addTo_60 rfl (by decide) (lv' := [(3, .long (dg1 (dgQ p2 al d 10) (lN (p2 10)))), (5, .int (nI 10)), (0, .ref s0), (1, .long d)]) rfl ?_
        refine g_aload_n C dX3_addTo_61 2 rfl rfl ?_
        refine g_get C 0 rfl rfl 2 (by decide) (fun _ h => (List.mem_cons_of_mem _ (List.mem_append_right _ h))) 3 rfl rfl rfl dX3_addTo_62 ?_
        refine g_astore C dX3_addTo_65 (by decide) (lv' := [(5, .ref sc), (3, .long (dg1 (dgQ p2 al d 10) (lN (p2 10)))), (0, .ref s0), (1, .long d)]) rfl ?_
        refine g_aload C dX3_addTo_67 0 rfl ?_
        refine g_alen C (v := nI 16) 3 rfl (t0 := 2) rfl rfl dX3_addTo_69 ?_
        refine g_istore C dX3_addTo_70 (by decide) (lv' := [(6, .int (nI 16)), (5, .ref sc), (3, .long (dg1 (dgQ p2 al d 10) (lN (p2 10)))), (0, .ref s0), (1, .long d)]) rfl ?_
        refine g_iconst C dX3_addTo_72 (v := (nI 0)) (by decide) ?_
        refine g_istore C dX3_addTo_73 (by decide) (lv' := [(7, .int (nI 0)), (6, .int (nI 16)), (5, .ref sc), (3, .long (dg1 (dgQ p2 al d 10) (lN (p2 10)))), (0, .ref s0), (1, .long d)]) rfl ?_
        have L75 : ∀ (n9 : Nat) (i : Nat), 16 - i < n9 → (i ≤ 16) → gG (g_IP D s [(s0, .inr (2, [.ref sp, .ref sa, .ref sc])), (sp, .inl (ty.1, 11, .inl (zN p2))), (sa, .inl (ty.2.2, 10, .inl (zB al))), (sc, .inl (ty.2.2, 16, .inl (zB cs)))]) p l e rm_t_X3_addTo s m args below meth c Q 9 0 0 75 [(7, .int (nI i)), (6, .int (nI 16)), (5, .ref sc), (3, .long (dgB cs (dg1 (dgQ p2 al d 10) (lN (p2 10))) i)), (0, .ref s0), (1, .long d)] [] [(s0, .inr (2, [.ref sp, .ref sa, .ref sc])), (sp, .inl (ty.1, 11, .inl (zN p2))), (sa, .inl (ty.2.2, 10, .inl (zB al))), (sc, .inl (ty.2.2, 16, .inl (zB cs)))] := by
          intro n9
          induction n9 with
          | zero => intro i hn; exact absurd hn (Nat.not_lt_zero _)
          | succ n9 ih75 =>
            intro i hn75 hi
            refine g_iload C dX3_addTo_75 0 rfl ?_
            refine g_iload C dX3_addTo_77 1 rfl ?_
            refine g_icmp_geN C dX3_addTo_79 (tgt := 110) (by decide) (by omega) (by omega) (fun h79 => ?_) (fun h79 => ?_)
            · skip
              obtain rfl : i = 16 := by omega
              refine g_lload_n C dX3_addTo_110 3 rfl rfl ?_
              exact hR _ _ _ _ dX3_addTo_111 (rfl)
            · skip
              have hbt := bt_lt (cs i)
              refine g_aload C dX3_addTo_82 2 rfl ?_
              refine g_iload C dX3_addTo_84 0 rfl ?_
              refine g_zald C (v := (nI ((cs i).toNat))) 3 rfl (by omega) (by omega) rfl dX3_addTo_86 ?_
              refine g_istore C dX3_addTo_87 (by decide) (lv' := [(8, .int (nI ((cs i).toNat))), (7, .int (nI i)), (6, .int (nI 16)), (5, .ref sc), (3, .long (dgB cs (dg1 (dgQ p2 al d 10) (lN (p2 10))) i)), (0, .ref s0), (1, .long d)]) rfl ?_
              refine g_lload_n C dX3_addTo_89 4 rfl rfl ?_
              refine g_iload C dX3_addTo_90 0 rfl ?_
              refine g_if_eqN C dX3_addTo_92 (tgt := 99) (by decide) (by omega) (fun h92 => ?_) (fun h92 => ?_)
              · skip
                refine g_lconst C dX3_addTo_99 (v := (lN (cs i).toNat)) (l0_f h92) ?_
                refine g_callPSN C ⟨g_X0_ok, trivial⟩ (t_X5_added l D ty (dgB cs (dg1 (dgQ p2 al d 10) (lN (p2 10))) i) (lN (cs i).toNat)) rfl (hX.2.1 2 (by decide)) ggX3_addTo_X5_added 5 4 rfl rfl 2 (by decide +kernel) rfl ⟨rfl, rfl⟩ ⟨Nat.le_of_ble_eq_true rfl, Nat.le_of_ble_eq_true rfl⟩ (rest := []) [] rfl (Nat.le_of_ble_eq_true rfl) dX3_addTo_100 ⟨Nat.le_of_ble_eq_true rfl, Nat.le_of_ble_eq_true rfl⟩ rfl (g_kl (fun r hr => ?_))
                subst hr
                rw [show (dgB cs (dg1 (dgQ p2 al d 10) (lN (p2 10))) i) * 31 + (lN (cs i).toNat) = dg1 (dgB cs (dg1 (dgQ p2 al d 10) (lN (p2 10))) i) (lN (cs i).toNat) from rfl]
                refine g_lstore_n C dX3_addTo_103 rfl (by decide) (lv' := [(3, .long (dg1 (dgB cs (dg1 (dgQ p2 al d 10) (lN (p2 10))) i) (lN (cs i).toNat))), (8, .int (nI ((cs i).toNat))), (7, .int (nI i)), (6, .int (nI 16)), (5, .ref sc), (0, .ref s0), (1, .long d)]) rfl ?_
                refine g_iinc C dX3_addTo_104 2 rfl (v := (nI (i + 1))) (nI_1 i) (by decide) (lv' := [(7, .int (nI (i + 1))), (3, .long (dg1 (dgB cs (dg1 (dgQ p2 al d 10) (lN (p2 10))) i) (lN (cs i).toNat))), (8, .int (nI ((cs i).toNat))), (6, .int (nI 16)), (5, .ref sc), (0, .ref s0), (1, .long d)]) rfl ?_
                refine g_goto C dX3_addTo_107 (tgt := 75) (by decide) ?_
                refine g_lv [0, 3, 4, 1, 5, 6] rfl ?_
                exact ih75 (i + 1) (by omega) (by omega)
              · skip
                refine g_lconst C dX3_addTo_95 (v := (lN (cs i).toNat)) (l1_t h92) ?_
                refine g_goto C dX3_addTo_96 (tgt := 100) (by decide) ?_
                refine g_callPSN C ⟨g_X0_ok, trivial⟩ (t_X5_added l D ty (dgB cs (dg1 (dgQ p2 al d 10) (lN (p2 10))) i) (lN (cs i).toNat)) rfl (hX.2.1 2 (by decide)) ggX3_addTo_X5_added 5 4 rfl rfl 2 (by decide +kernel) rfl ⟨rfl, rfl⟩ ⟨Nat.le_of_ble_eq_true rfl, Nat.le_of_ble_eq_true rfl⟩ (rest := []) [] rfl (Nat.le_of_ble_eq_true rfl) dX3_addTo_100 ⟨Nat.le_of_ble_eq_true rfl, Nat.le_of_ble_eq_true rfl⟩ rfl (g_kl (fun r hr => ?_))
                subst hr
                rw [show (dgB cs (dg1 (dgQ p2 al d 10) (lN (p2 10))) i) * 31 + (lN (cs i).toNat) = dg1 (dgB cs (dg1 (dgQ p2 al d 10) (lN (p2 10))) i) (lN (cs i).toNat) from rfl]
                refine g_lstore_n C dX3_addTo_103 rfl (by decide) (lv' := [(3, .long (dg1 (dgB cs (dg1 (dgQ p2 al d 10) (lN (p2 10))) i) (lN (cs i).toNat))), (8, .int (nI ((cs i).toNat))), (7, .int (nI i)), (6, .int (nI 16)), (5, .ref sc), (0, .ref s0), (1, .long d)]) rfl ?_
                refine g_iinc C dX3_addTo_104 2 rfl (v := (nI (i + 1))) (nI_1 i) (by decide) (lv' := [(7, .int (nI (i + 1))), (3, .long (dg1 (dgB cs (dg1 (dgQ p2 al d 10) (lN (p2 10))) i) (lN (cs i).toNat))), (8, .int (nI ((cs i).toNat))), (6, .int (nI 16)), (5, .ref sc), (0, .ref s0), (1, .long d)]) rfl ?_
                refine g_goto C dX3_addTo_107 (tgt := 75) (by decide) ?_
                refine g_lv [0, 3, 4, 1, 5, 6] rfl ?_
                exact ih75 (i + 1) (by omega) (by omega)
        exact L75 _ 0 (Nat.lt_succ_self _) (by omega)
      · skip
        have hpi := hp.1 i (by omega)
        have hbt := bt_lt (al i)
        refine g_lload_n C dX3_addTo_12 1 rfl rfl ?_
        refine g_aload_n C dX3_addTo_13 2 rfl rfl ?_
        refine g_get C 0 rfl rfl 0 (by decide) (fun _ h => (List.mem_cons_of_mem _ (List.mem_append_right _ h))) 1 rfl rfl rfl dX3_addTo_14 ?_
        refine g_iload C dX3_addTo_17 0 rfl ?_
        refine g_iald C (v := (nI (p2 i))) 1 rfl (by omega) (by omega) rfl dX3_addTo_19 ?_
        refine g_i2l C dX3_addTo_20 (v := (lN (p2 i))) (nI_l (by omega)) ?_
        refine g_callPSN C ⟨g_X0_ok, trivial⟩ (t_X5_added l D ty (dgQ p2 al d i) (lN (p2 i))) rfl (hX.2.1 2 (by decide)) ggX3_addTo_X5_added 5 4 rfl rfl 2 (by decide +kernel) rfl ⟨rfl, rfl⟩ ⟨Nat.le_of_ble_eq_true rfl, Nat.le_of_ble_eq_true rfl⟩ (rest := []) [] rfl (Nat.le_of_ble_eq_true rfl) dX3_addTo_21 ⟨Nat.le_of_ble_eq_true rfl, Nat.le_of_ble_eq_true rfl⟩ rfl (g_kl (fun r hr => ?_))
        subst hr
        rw [show (dgQ p2 al d i) * 31 + (lN (p2 i)) = dg1 (dgQ p2 al d i) (lN (p2 i)) from rfl]
        refine g_lstore_n C dX3_addTo_24 rfl (by decide) (lv' := [(3, .long (dg1 (dgQ p2 al d i) (lN (p2 i)))), (5, .int (nI i)), (0, .ref s0), (1, .long d)]) rfl ?_
        refine g_lload_n C dX3_addTo_25 0 rfl rfl ?_
        refine g_aload_n C dX3_addTo_26 2 rfl rfl ?_
        refine g_get C 0 rfl rfl 1 (by decide) (fun _ h => (List.mem_cons_of_mem _ (List.mem_append_right _ h))) 2 rfl rfl rfl dX3_addTo_27 ?_
        refine g_iload C dX3_addTo_30 1 rfl ?_
        refine g_zald C (v := (nI ((al i).toNat))) 2 rfl (by omega) (by omega) rfl dX3_addTo_32 ?_
        refine g_if_eqN C dX3_addTo_33 (tgt := 40) (by decide) (by omega) (fun h33 => ?_) (fun h33 => ?_)
        · skip
          refine g_lconst C dX3_addTo_40 (v := (lN (al i).toNat)) (l0_f h33) ?_
          refine g_callPSN C ⟨g_X0_ok, trivial⟩ (t_X5_added l D ty (dg1 (dgQ p2 al d i) (lN (p2 i))) (lN (al i).toNat)) rfl (hX.2.1 2 (by decide)) ggX3_addTo_X5_added 5 4 rfl rfl 2 (by decide +kernel) rfl ⟨rfl, rfl⟩ ⟨Nat.le_of_ble_eq_true rfl, Nat.le_of_ble_eq_true rfl⟩ (rest := []) [] rfl (Nat.le_of_ble_eq_true rfl) dX3_addTo_41 ⟨Nat.le_of_ble_eq_true rfl, Nat.le_of_ble_eq_true rfl⟩ rfl (g_kl (fun r hr => ?_))
          subst hr
          rw [show (dg1 (dgQ p2 al d i) (lN (p2 i))) * 31 + (lN (al i).toNat) = dg1 (dg1 (dgQ p2 al d i) (lN (p2 i))) (lN (al i).toNat) from rfl]
          refine g_lstore_n C dX3_addTo_44 rfl (by decide) (lv' := [(3, .long (dg1 (dg1 (dgQ p2 al d i) (lN (p2 i))) (lN (al i).toNat))), (5, .int (nI i)), (0, .ref s0), (1, .long d)]) rfl ?_
          refine g_iinc C dX3_addTo_45 1 rfl (v := (nI (i + 1))) (nI_1 i) (by decide) (lv' := [(5, .int (nI (i + 1))), (3, .long (dg1 (dg1 (dgQ p2 al d i) (lN (p2 i))) (lN (al i).toNat))), (0, .ref s0), (1, .long d)]) rfl ?_
          refine g_goto C dX3_addTo_48 (tgt := 5) (by decide) ?_
          exact ih5 (i + 1) (by omega) (by omega)
        · skip
          refine g_lconst C dX3_addTo_36 (v := (lN (al i).toNat)) (l1_t h33) ?_
          refine g_goto C dX3_addTo_37 (tgt := 41) (by decide) ?_
          refine g_callPSN C ⟨g_X0_ok, trivial⟩ (t_X5_added l D ty (dg1 (dgQ p2 al d i) (lN (p2 i))) (lN (al i).toNat)) rfl (hX.2.1 2 (by decide)) ggX3_addTo_X5_added 5 4 rfl rfl 2 (by decide +kernel) rfl ⟨rfl, rfl⟩ ⟨Nat.le_of_ble_eq_true rfl, Nat.le_of_ble_eq_true rfl⟩ (rest := []) [] rfl (Nat.le_of_ble_eq_true rfl) dX3_addTo_41 ⟨Nat.le_of_ble_eq_true rfl, Nat.le_of_ble_eq_true rfl⟩ rfl (g_kl (fun r hr => ?_))
          subst hr
          rw [show (dg1 (dgQ p2 al d i) (lN (p2 i))) * 31 + (lN (al i).toNat) = dg1 (dg1 (dgQ p2 al d i) (lN (p2 i))) (lN (al i).toNat) from rfl]
          refine g_lstore_n C dX3_addTo_44 rfl (by decide) (lv' := [(3, .long (dg1 (dg1 (dgQ p2 al d i) (lN (p2 i))) (lN (al i).toNat))), (5, .int (nI i)), (0, .ref s0), (1, .long d)]) rfl ?_
          refine g_iinc C dX3_addTo_45 1 rfl (v := (nI (i + 1))) (nI_1 i) (by decide) (lv' := [(5, .int (nI (i + 1))), (3, .long (dg1 (dg1 (dgQ p2 al d i) (lN (p2 i))) (lN (al i).toNat))), (0, .ref s0), (1, .long d)]) rfl ?_
          refine g_goto C dX3_addTo_48 (tgt := 5) (by decide) ?_
          exact ih5 (i + 1) (by omega) (by omega)
  exact L5 _ 0 (Nat.lt_succ_self _) (by omega)


abbrev rm_t_X2_has : Room := ({ frames := 0, cells := 0, slots := 0, locals := 0 } : Room)
set_option maxHeartbeats 4000000 in
set_option maxRecDepth 100000 in
theorem t_X2_has (l : Launch) (D : va_G) (ty : g_T3) (k0 kf ko ka kb kt kl kp : Nat) (n : Nat) (hn : n ≤ 2000) (en : Int32) : g_P l yX2_has wsX2_has rm_t_X2_has D ty g_X0 [.ref k0, .int en] [(k0, .inr (1, [.int (nI n), .ref kf, .ref ko, .ref ka, .ref kb, .ref kt, .ref kl, .ref kp]))] (g_pi (fun r => r = nI (hsB en n).toNat)) := by
  refine g_ofPz (cc := cX2_has) (nL := 2) (own := RX2) (by decide) rfl rfl g_X0_ok (Nat.le_of_ble_eq_true rfl) ?_
  intro p e s m args below meth c Q C hX hR
  refine g_lv (lv' := [(0, .ref k0), (1, .int en)]) [0, 1] rfl ?_
  refine g_iload_n C dX2_has_0 1 rfl rfl ?_
  refine g_if_lt C dX2_has_1 (tgt := 16) (by decide) (fun h1 => ?_) (fun h1 => ?_)
  · skip
    have hf := hs_f (n := n) (Or.inl h1)
    refine g_iconst C dX2_has_16 (v := (nI 0)) (by decide) ?_
    refine hR _ _ _ _ rfl dX2_has_17 ?_
    first | exact n1_t hf | exact n0_f hf
  · skip
    refine g_iload_n C dX2_has_4 1 rfl rfl ?_
    refine g_aload_n C dX2_has_5 0 rfl rfl ?_
    refine g_get C 0 rfl rfl 0 (by decide) (fun _ h => (List.mem_cons_of_mem _ (List.mem_append_right _ h))) 1 rfl rfl rfl dX2_has_6 ?_
    refine g_icmp_ge C dX2_has_9 (tgt := 16) (by decide) (fun h9 => ?_) (fun h9 => ?_)
    · skip
      rw [nI_toInt (by omega)] at h9
      have hf : hsB en n = false := hs_f (by omega)
      refine g_iconst C dX2_has_16 (v := (nI 0)) (by decide) ?_
      refine hR _ _ _ _ rfl dX2_has_17 ?_
      first | exact n1_t hf | exact n0_f hf
    · skip
      rw [nI_toInt (by omega)] at h9
      have hf : hsB en n = true := hs_t (by omega) (by omega)
      refine g_iconst C dX2_has_12 (v := (nI 1)) (by decide) ?_
      refine g_goto C dX2_has_13 (tgt := 17) (by decide) ?_
      refine hR _ _ _ _ rfl dX2_has_17 ?_
      first | exact n1_t hf | exact n0_f hf

abbrev rm_t_X2_isFull : Room := ({ frames := 0, cells := 0, slots := 0, locals := 0 } : Room)
set_option maxHeartbeats 4000000 in
set_option maxRecDepth 100000 in
theorem t_X2_isFull (l : Launch) (D : va_G) (ty : g_T3) (k0 kf ko ka kb kt kl kp : Nat) (n : Nat) (hn : n ≤ 2000) : g_P l yX2_isFull wsX2_isFull rm_t_X2_isFull D ty g_X0 [.ref k0] [(k0, .inr (1, [.int (nI n), .ref kf, .ref ko, .ref ka, .ref kb, .ref kt, .ref kl, .ref kp]))] (g_pi (fun r => r = nI (flB n).toNat)) := by
  refine g_ofPz (cc := cX2_isFull) (nL := 1) (own := RX2) (by decide) rfl rfl g_X0_ok (Nat.le_of_ble_eq_true rfl) ?_
  intro p e s m args below meth c Q C hX hR
  refine g_lv (lv' := [(0, .ref k0)]) [0] rfl ?_
  refine g_aload_n C dX2_isFull_0 0 rfl rfl ?_
  refine g_get C 0 rfl rfl 0 (by decide) (fun _ h => (List.mem_cons_of_mem _ (List.mem_append_right _ h))) 1 rfl rfl rfl dX2_isFull_1 ?_
  refine g_sipush C dX2_isFull_4 (v := (nI 2000)) (by decide) ?_
  refine g_icmp_ltN C dX2_isFull_7 (tgt := 14) (by decide) (by omega) (by omega) (fun h7 => ?_) (fun h7 => ?_)
  · skip
    have hf := fl_f h7
    refine g_iconst C dX2_isFull_14 (v := (nI 0)) (by decide) ?_
    refine hR _ _ _ _ rfl dX2_isFull_15 ?_
    first | exact n1_t hf | exact n0_f hf
  · skip
    have hf := fl_t h7
    refine g_iconst C dX2_isFull_10 (v := (nI 1)) (by decide) ?_
    refine g_goto C dX2_isFull_11 (tgt := 15) (by decide) ?_
    refine hR _ _ _ _ rfl dX2_isFull_15 ?_
    first | exact n1_t hf | exact n0_f hf

abbrev rm_t_X2_slotOf : Room := ({ frames := 0, cells := 0, slots := 0, locals := 0 } : Room)
set_option maxHeartbeats 4000000 in
set_option maxRecDepth 100000 in
theorem t_X2_slotOf (l : Launch) (D : va_G) (ty : g_T3) (k0 kf ko ka kb kt kl kp : Nat) (es : List Ent) (fF : Nat → Int64) (sF : Nat → Int32) (f : Int64) (hf : ∀ i, i < es.length → fF i = eF es i) (hh : hOk es sF) (hl : es.length ≤ 2000) : g_P l yX2_slotOf wsX2_slotOf rm_t_X2_slotOf D ty g_X0 [.ref k0, .long f] [(k0, .inr (1, [.int (nI es.length), .ref kf, .ref ko, .ref ka, .ref kb, .ref kt, .ref kl, .ref kp])), (kf, .inl (ty.2.1, 2000, .inr (.inl fF))), (kl, .inl (ty.1, 4096, .inl sF))] (g_pi (fun r => ∃ n, r = nI ((hsh f + n) % 4096) ∧ pathE es sF f n ∧ (sF ((hsh f + n) % 4096) = -1 ∨ ∃ i, i < es.length ∧ sF ((hsh f + n) % 4096) = nI i ∧ eF es i = f))) := by
  refine g_ofPi (cc := cX2_slotOf) (nL := 6) (own := RX2) (by decide) rfl rfl g_X0_ok (Nat.le_of_ble_eq_true rfl) ?_
  intro p e s m args below meth c Q C hX hR
  refine g_lv (lv' := [(0, .ref k0), (1, .long f)]) [0, 1] rfl ?_
  refine g_lload_n C dX2_slotOf_0 1 rfl rfl ?_
  refine g_ldc2 C (v := (-7046029254386353131)) 1 rfl dX2_slotOf_1 ?_
  refine g_lmul C dX2_slotOf_4 (v := (f * (-7046029254386353131))) rfl ?_
  refine g_bipush C dX2_slotOf_5 (v := (nI 52)) (by decide) ?_
  refine g_lushr C dX2_slotOf_7 (v := (j_ushr (f * (-7046029254386353131)) (nI 52))) rfl ?_
  refine g_l2i C dX2_slotOf_8 (v := (nI (hsh f))) (hsh_ok f) ?_
  have h0 : hsh f = (hsh f + 0) % 4096 := by have := hsh_lt f; omega
  rw [h0]
  refine g_istore_n C dX2_slotOf_9 rfl (by decide) (lv' := [(3, .int (nI ((hsh f + 0) % 4096))), (0, .ref k0), (1, .long f)]) rfl ?_
  refine g_iconst C dX2_slotOf_10 (v := (nI 0)) (by decide) ?_
  refine g_istore C dX2_slotOf_11 (by decide) (lv' := [(4, .int (nI 0)), (3, .int (nI ((hsh f + 0) % 4096))), (0, .ref k0), (1, .long f)]) rfl ?_
  have L13 : ∀ (n9 : Nat) (n : Nat), 4096 - n < n9 → (n ≤ 4096) → (pathE es sF f n) → gG (g_IP D s [(k0, .inr (1, [.int (nI es.length), .ref kf, .ref ko, .ref ka, .ref kb, .ref kt, .ref kl, .ref kp])), (kf, .inl (ty.2.1, 2000, .inr (.inl fF))), (kl, .inl (ty.1, 4096, .inl sF))]) p l e rm_t_X2_slotOf s m args below meth c Q 6 0 0 13 [(4, .int (nI n)), (3, .int (nI ((hsh f + n) % 4096))), (0, .ref k0), (1, .long f)] [] [(k0, .inr (1, [.int (nI es.length), .ref kf, .ref ko, .ref ka, .ref kb, .ref kt, .ref kl, .ref kp])), (kf, .inl (ty.2.1, 2000, .inr (.inl fF))), (kl, .inl (ty.1, 4096, .inl sF))] := by
    intro n9
    induction n9 with
    | zero => intro n hn; exact absurd hn (Nat.not_lt_zero _)
    | succ n9 ih13 =>
      intro n hn13 hn hp
      refine g_iload C dX2_slotOf_13 0 rfl ?_
      refine g_sipush C dX2_slotOf_15 (v := (nI 4096)) (by decide) ?_
      refine g_icmp_geN C dX2_slotOf_18 (tgt := 71) (by decide) (by omega) (by omega) (fun h18 => ?_) (fun h18 => ?_)
      · skip
        have hn4 : n = 4096 := by omega
        subst hn4
        exact absurd hp (h_free hh hl)
      · skip
        refine g_aload_n C dX2_slotOf_21 2 rfl rfl ?_
        refine g_get C 0 rfl rfl 6 (by decide) (fun _ h => (List.mem_cons_of_mem _ (List.mem_append_right _ h))) 2 rfl rfl rfl dX2_slotOf_22 ?_
        refine g_iload_n C dX2_slotOf_25 1 rfl rfl ?_
        have hm : (hsh f + n) % 4096 < 4096 := Nat.mod_lt _ (by decide)
        refine g_iald C (v := (sF ((hsh f + n) % 4096))) 2 rfl (by omega) (by omega) rfl dX2_slotOf_26 ?_
        refine g_istore C dX2_slotOf_27 (by decide) (lv' := [(5, .int (sF ((hsh f + n) % 4096))), (4, .int (nI n)), (3, .int (nI ((hsh f + n) % 4096))), (0, .ref k0), (1, .long f)]) rfl ?_
        refine g_iload C dX2_slotOf_29 0 rfl ?_
        refine g_if_lt C dX2_slotOf_31 (tgt := 55) (by decide) (fun h31 => ?_) (fun h31 => ?_)
        · skip
          have hk : sF ((hsh f + n) % 4096) = -1 := by
            rcases hh.1 ((hsh f + n) % 4096) hm with q | ⟨i, hi, q⟩
            · exact q
            · rw [q, nI_toInt (by omega)] at h31; omega
          refine g_iload_n C dX2_slotOf_55 2 rfl rfl ?_
          refine hR _ _ _ _ dX2_slotOf_56 ?_
          first | exact ⟨n, rfl, hp, Or.inl hk⟩ | exact ⟨n, rfl, hp, Or.inr ⟨i, hi, hv, lg_0 h52⟩⟩
        · skip
          obtain ⟨i, hi, hv⟩ : ∃ i, i < es.length ∧ sF ((hsh f + n) % 4096) = nI i := by
            rcases hh.1 ((hsh f + n) % 4096) hm with q | q
            · rw [q] at h31; exact absurd h31 (by decide)
            · exact q
          rw [hv]
          refine g_iload C dX2_slotOf_34 0 rfl ?_
          refine g_aload_n C dX2_slotOf_36 3 rfl rfl ?_
          refine g_get C 0 rfl rfl 0 (by decide) (fun _ h => (List.mem_cons_of_mem _ (List.mem_append_right _ h))) 3 rfl rfl rfl dX2_slotOf_37 ?_
          refine g_icmp_geN C dX2_slotOf_40 (tgt := 55) (by decide) (by omega) (by omega) (fun h40 => ?_) (fun h40 => ?_)
          · skip
            exact absurd h40 (by omega)
          · skip
            refine g_aload_n C dX2_slotOf_43 3 rfl rfl ?_
            refine g_get C 0 rfl rfl 1 (by decide) (fun _ h => (List.mem_cons_of_mem _ (List.mem_append_right _ h))) 4 rfl rfl rfl dX2_slotOf_44 ?_
            refine g_iload C dX2_slotOf_47 0 rfl ?_
            refine g_lald C (v := (eF es i)) 1 rfl (by omega) (by omega) (hf i hi) dX2_slotOf_49 ?_
            refine g_lload_n C dX2_slotOf_50 4 rfl rfl ?_
            refine g_lcmp C dX2_slotOf_51 ?_
            refine g_if_ne C dX2_slotOf_52 (tgt := 57) (by decide) (fun h52 => ?_) (fun h52 => ?_)
            · skip
              refine g_iload_n C dX2_slotOf_57 2 rfl rfl ?_
              refine g_iconst C dX2_slotOf_58 (v := (nI 1)) (by decide) ?_
              refine g_iadd C dX2_slotOf_59 (v := (nI (((hsh f + n) % 4096) + 1))) (nI_add _ _) ?_
              refine g_sipush C dX2_slotOf_60 (v := (nI 4096)) (by decide) ?_
              refine g_irem C dX2_slotOf_63 (by decide) (v := (nI ((hsh f + (n + 1)) % 4096))) ((pk_rem (by omega) (by decide) (by decide)).trans (congrArg nI (by omega))) ?_
              refine g_istore_n C dX2_slotOf_64 rfl (by decide) (lv' := [(3, .int (nI ((hsh f + (n + 1)) % 4096))), (5, .int (nI i)), (4, .int (nI n)), (0, .ref k0), (1, .long f)]) rfl ?_
              refine g_iinc C dX2_slotOf_65 2 rfl (v := (nI (n + 1))) (nI_1 n) (by decide) (lv' := [(4, .int (nI (n + 1))), (3, .int (nI ((hsh f + (n + 1)) % 4096))), (5, .int (nI i)), (0, .ref k0), (1, .long f)]) rfl ?_
              refine g_goto C dX2_slotOf_68 (tgt := 13) (by decide) ?_
              refine g_lv [0, 1, 3, 4] rfl ?_
              exact ih13 (n + 1) (by omega) (by omega) (fun j hj => (Nat.lt_or_ge j n).elim (hp j) (fun q => by rw [show j = n by omega]; exact ⟨i, hi, hv, lg_1 h52⟩))
            · skip
              refine g_iload_n C dX2_slotOf_55 2 rfl rfl ?_
              refine hR _ _ _ _ dX2_slotOf_56 ?_
              first | exact ⟨n, rfl, hp, Or.inl hk⟩ | exact ⟨n, rfl, hp, Or.inr ⟨i, hi, hv, lg_0 h52⟩⟩
  exact L13 _ 0 (Nat.lt_succ_self _) (by omega) (fun j h => absurd h (Nat.not_lt_zero j))

abbrev rm_t_X2_add : Room := ({ frames := 1, cells := 0, slots := 0, locals := 25 } : Room)
set_option maxHeartbeats 4000000 in
set_option maxRecDepth 100000 in
theorem t_X2_add (l : Launch) (D : va_G) (ty : g_T3) (k0 kf ko ka kb kt kl kp : Nat) (es : List Ent) (fF : Nat → Int64) (oF aF bF tF sF pF : Nat → Int32) (hw : rowOk es fF oF aF bF sF) (f : Int64) (cv : Nat) (o a b : Int32) : g_U l yX2_add wsX2_add rm_t_X2_add D ty g_X0 [.ref k0, .long f, .int o, .int a, .int b] [(k0, .inr (1, [.int (nI es.length), .ref kf, .ref ko, .ref ka, .ref kb, .ref kt, .ref kl, .ref kp])), (kf, .inl (ty.2.1, 2000, .inr (.inl fF))), (ko, .inl (ty.1, 2000, .inl oF)), (ka, .inl (ty.1, 2000, .inl aF)), (kb, .inl (ty.1, 2000, .inl bF)), (kl, .inl (ty.1, 4096, .inl sF))] 0 0 (g_uv (fun w => ∃ (fF2 : Nat → Int64) (oF2 aF2 bF2 sF2 : Nat → Int32), rowOk (addE f cv o a b es) fF2 oF2 aF2 bF2 sF2 ∧ w = [(k0, .inr (1, [.int (nI (((addE f cv o a b es)).length)), .ref kf, .ref ko, .ref ka, .ref kb, .ref kt, .ref kl, .ref kp])), (kf, .inl (ty.2.1, 2000, .inr (.inl fF2))), (ko, .inl (ty.1, 2000, .inl oF2)), (ka, .inl (ty.1, 2000, .inl aF2)), (kb, .inl (ty.1, 2000, .inl bF2)), (kl, .inl (ty.1, 4096, .inl sF2))])) := by
  refine g_ofUv (cc := cX2_add) (nL := 7) (own := RX2) (by decide) rfl rfl g_X0_ok (Nat.le_of_ble_eq_true rfl) ?_
  intro p e s m args below meth c Q A C hA hX hin hR
  refine g_lv (lv' := [(0, .ref k0), (1, .long f), (3, .int o), (4, .int a), (5, .int b)]) [0, 1, 2, 3, 4] rfl ?_
  have hlen := hw.2.2.2
  refine g_aload_n C dX2_add_0 0 rfl rfl ?_
  refine g_lload_n C dX2_add_1 1 rfl rfl ?_
  refine g_callPV C ⟨g_X0_ok, trivial⟩ (t_X2_slotOf l D ty k0 kf ko ka kb kt kl kp es fF sF f (fun i hi => (hw.1 i hi).1) hw.2.1 hw.2.2.2) rfl gX2_add_X2_slotOf 1 (by decide +kernel) rfl ⟨rfl, rfl⟩ ⟨Nat.le_of_ble_eq_true rfl, Nat.le_of_ble_eq_true rfl⟩ (rest := []) (q0 := 0) rfl rfl [0, 1, 5] rfl (Nat.le_of_ble_eq_true rfl) dX2_add_2 ⟨Nat.le_of_ble_eq_true rfl, Nat.le_of_ble_eq_true rfl⟩ rfl (g_ki (fun r hr => ?_))
  obtain ⟨n0, rfl, hp, hs⟩ := hr
  have hm : (hsh f + n0) % 4096 < 4096 := Nat.mod_lt _ (by decide)
  refine g_istore C dX2_add_5 (by decide) (lv' := [(6, .int (nI ((hsh f + n0) % 4096))), (0, .ref k0), (1, .long f), (3, .int o), (4, .int a), (5, .int b)]) rfl ?_
  refine g_aload_n C dX2_add_7 1 rfl rfl ?_
  refine g_callPV C ⟨g_X0_ok, trivial⟩ (t_X2_isFull l D ty k0 kf ko ka kb kt kl kp es.length (by omega)) rfl gX2_add_X2_isFull 0 (by decide +kernel) rfl ⟨rfl, rfl⟩ ⟨Nat.le_of_ble_eq_true rfl, Nat.le_of_ble_eq_true rfl⟩ (rest := []) (q0 := 0) rfl rfl [0] rfl (Nat.le_of_ble_eq_true rfl) dX2_add_8 ⟨Nat.le_of_ble_eq_true rfl, Nat.le_of_ble_eq_true rfl⟩ rfl (g_ki (fun r hr => ?_))
  subst hr
  have := bt_lt (flB es.length)
  refine g_if_neN C dX2_add_11 (tgt := 31) (by decide) (by omega) (fun h11 => ?_) (fun h11 => ?_)
  · skip
    have hfull := fl_1 h11
    have hE : addE f cv o a b es = es := addE_old (Or.inl (by omega))
    refine hR _ _ _ _ _ dX2_add_31 ?_ (by omega) (by omega)
    rw [hE]; exact ⟨_, _, _, _, _, hw, rfl⟩
  · skip
    have hnf := fl_0 h11
    refine g_iload C dX2_add_14 0 rfl ?_
    refine g_iconst C dX2_add_16 (v := (-1)) (by decide) ?_
    refine g_icmp_eq C dX2_add_17 (tgt := 31) (by decide) (fun h17 => ?_) (fun h17 => ?_)
    · skip
      exact absurd (t_eq.mpr h17) (nI_m1 (by omega))
    · skip
      refine g_aload_n C dX2_add_20 1 rfl rfl ?_
      refine g_get C 0 rfl rfl 6 (by decide) (fun _ h => (List.mem_cons_of_mem _ (List.mem_append_right _ h))) 1 rfl rfl rfl dX2_add_21 ?_
      refine g_iload C dX2_add_24 0 rfl ?_
      refine g_iald C (v := (sF ((hsh f + n0) % 4096))) 5 rfl (by omega) (by omega) rfl dX2_add_26 ?_
      refine g_iconst C dX2_add_27 (v := (-1)) (by decide) ?_
      refine g_icmp_eq C dX2_add_28 (tgt := 32) (by decide) (fun h28 => ?_) (fun h28 => ?_)
      · skip
        have hk := t_eq.mpr h28
        have hout := h_out hw.2.1 hw.2.2.2 hp hk
        have hE : addE f cv o a b es = es ++ [(f, cv, o, a, b)] := addE_new (by omega) hout
        refine g_aload_n C dX2_add_32 1 rfl rfl ?_
        refine g_get C 0 rfl rfl 6 (by decide) (fun _ h => (List.mem_cons_of_mem _ (List.mem_append_right _ h))) 1 rfl rfl rfl dX2_add_33 ?_
        refine g_iload C dX2_add_36 0 rfl ?_
        refine g_aload_n C dX2_add_38 1 rfl rfl ?_
        refine g_get C 0 rfl rfl 0 (by decide) (fun _ h => (List.mem_cons_of_mem _ (List.mem_append_right _ h))) 2 rfl rfl rfl dX2_add_39 ?_
        refine g_iast C 5 rfl (by omega) (by omega) (f' := upd sF ((hsh f + n0) % 4096) (nI es.length)) rfl (ws' := [(k0, .inr (1, [.int (nI es.length), .ref kf, .ref ko, .ref ka, .ref kb, .ref kt, .ref kl, .ref kp])), (kf, .inl (ty.2.1, 2000, .inr (.inl fF))), (ko, .inl (ty.1, 2000, .inl oF)), (ka, .inl (ty.1, 2000, .inl aF)), (kb, .inl (ty.1, 2000, .inl bF)), (kl, .inl (ty.1, 4096, .inl (upd sF ((hsh f + n0) % 4096) (nI es.length))))]) rfl dX2_add_42 ?_
        refine g_aload_n C dX2_add_43 1 rfl rfl ?_
        refine g_get C 0 rfl rfl 1 (by decide) (fun _ h => (List.mem_cons_of_mem _ (List.mem_append_right _ h))) 3 rfl rfl rfl dX2_add_44 ?_
        refine g_aload_n C dX2_add_47 1 rfl rfl ?_
        refine g_get C 0 rfl rfl 0 (by decide) (fun _ h => (List.mem_cons_of_mem _ (List.mem_append_right _ h))) 2 rfl rfl rfl dX2_add_48 ?_
        refine g_lload_n C dX2_add_51 2 rfl rfl ?_
        refine g_last C 1 rfl (by omega) (by omega) (f' := vp_updL fF es.length f) rfl (ws' := [(k0, .inr (1, [.int (nI es.length), .ref kf, .ref ko, .ref ka, .ref kb, .ref kt, .ref kl, .ref kp])), (kf, .inl (ty.2.1, 2000, .inr (.inl (vp_updL fF es.length f)))), (ko, .inl (ty.1, 2000, .inl oF)), (ka, .inl (ty.1, 2000, .inl aF)), (kb, .inl (ty.1, 2000, .inl bF)), (kl, .inl (ty.1, 4096, .inl (upd sF ((hsh f + n0) % 4096) (nI es.length))))]) rfl dX2_add_52 ?_
        refine g_aload_n C dX2_add_53 1 rfl rfl ?_
        refine g_get C 0 rfl rfl 2 (by decide) (fun _ h => (List.mem_cons_of_mem _ (List.mem_append_right _ h))) 4 rfl rfl rfl dX2_add_54 ?_
        refine g_aload_n C dX2_add_57 1 rfl rfl ?_
        refine g_get C 0 rfl rfl 0 (by decide) (fun _ h => (List.mem_cons_of_mem _ (List.mem_append_right _ h))) 2 rfl rfl rfl dX2_add_58 ?_
        refine g_iload_n C dX2_add_61 3 rfl rfl ?_
        refine g_iast C 2 rfl (by omega) (by omega) (f' := upd oF es.length o) rfl (ws' := [(k0, .inr (1, [.int (nI es.length), .ref kf, .ref ko, .ref ka, .ref kb, .ref kt, .ref kl, .ref kp])), (kf, .inl (ty.2.1, 2000, .inr (.inl (vp_updL fF es.length f)))), (ko, .inl (ty.1, 2000, .inl (upd oF es.length o))), (ka, .inl (ty.1, 2000, .inl aF)), (kb, .inl (ty.1, 2000, .inl bF)), (kl, .inl (ty.1, 4096, .inl (upd sF ((hsh f + n0) % 4096) (nI es.length))))]) rfl dX2_add_62 ?_
        refine g_aload_n C dX2_add_63 1 rfl rfl ?_
        refine g_get C 0 rfl rfl 3 (by decide) (fun _ h => (List.mem_cons_of_mem _ (List.mem_append_right _ h))) 5 rfl rfl rfl dX2_add_64 ?_
        refine g_aload_n C dX2_add_67 1 rfl rfl ?_
        refine g_get C 0 rfl rfl 0 (by decide) (fun _ h => (List.mem_cons_of_mem _ (List.mem_append_right _ h))) 2 rfl rfl rfl dX2_add_68 ?_
        refine g_iload C dX2_add_71 4 rfl ?_
        refine g_iast C 3 rfl (by omega) (by omega) (f' := upd aF es.length a) rfl (ws' := [(k0, .inr (1, [.int (nI es.length), .ref kf, .ref ko, .ref ka, .ref kb, .ref kt, .ref kl, .ref kp])), (kf, .inl (ty.2.1, 2000, .inr (.inl (vp_updL fF es.length f)))), (ko, .inl (ty.1, 2000, .inl (upd oF es.length o))), (ka, .inl (ty.1, 2000, .inl (upd aF es.length a))), (kb, .inl (ty.1, 2000, .inl bF)), (kl, .inl (ty.1, 4096, .inl (upd sF ((hsh f + n0) % 4096) (nI es.length))))]) rfl dX2_add_73 ?_
        refine g_aload_n C dX2_add_74 1 rfl rfl ?_
        refine g_get C 0 rfl rfl 4 (by decide) (fun _ h => (List.mem_cons_of_mem _ (List.mem_append_right _ h))) 6 rfl rfl rfl dX2_add_75 ?_
        refine g_aload_n C dX2_add_78 1 rfl rfl ?_
        refine g_get C 0 rfl rfl 0 (by decide) (fun _ h => (List.mem_cons_of_mem _ (List.mem_append_right _ h))) 2 rfl rfl rfl dX2_add_79 ?_
        refine g_iload C dX2_add_82 5 rfl ?_
        refine g_iast C 4 rfl (by omega) (by omega) (f' := upd bF es.length b) rfl (ws' := [(k0, .inr (1, [.int (nI es.length), .ref kf, .ref ko, .ref ka, .ref kb, .ref kt, .ref kl, .ref kp])), (kf, .inl (ty.2.1, 2000, .inr (.inl (vp_updL fF es.length f)))), (ko, .inl (ty.1, 2000, .inl (upd oF es.length o))), (ka, .inl (ty.1, 2000, .inl (upd aF es.length a))), (kb, .inl (ty.1, 2000, .inl (upd bF es.length b))), (kl, .inl (ty.1, 4096, .inl (upd sF ((hsh f + n0) % 4096) (nI es.length))))]) rfl dX2_add_84 ?_
        refine g_aload_n C dX2_add_85 1 rfl rfl ?_
        refine g_dup C dX2_add_86 rfl ?_
        refine g_get C 0 rfl rfl 0 (by decide) (fun _ h => (List.mem_cons_of_mem _ (List.mem_append_right _ h))) 2 rfl rfl rfl dX2_add_87 ?_
        refine g_iconst C dX2_add_90 (v := (nI 1)) (by decide) ?_
        refine g_iadd C dX2_add_91 (v := (nI (es.length + 1))) (nI_add _ _) ?_
        refine g_put C 0 rfl rfl 0 (by decide) (fun _ h => (List.mem_cons_of_mem _ (List.mem_append_right _ h))) 2 rfl rfl tyX2 tyX2_ok nmX2 rfl rfl rfl rfl (Nat.le_of_ble_eq_true rfl) (ws' := [(k0, .inr (1, [.int (nI (es.length + 1)), .ref kf, .ref ko, .ref ka, .ref kb, .ref kt, .ref kl, .ref kp])), (kf, .inl (ty.2.1, 2000, .inr (.inl (vp_updL fF es.length f)))), (ko, .inl (ty.1, 2000, .inl (upd oF es.length o))), (ka, .inl (ty.1, 2000, .inl (upd aF es.length a))), (kb, .inl (ty.1, 2000, .inl (upd bF es.length b))), (kl, .inl (ty.1, 4096, .inl (upd sF ((hsh f + n0) % 4096) (nI es.length))))]) rfl dX2_add_92 ?_
        refine hR _ _ _ _ _ dX2_add_95 ?_ (by omega) (by omega)
        rw [hE]
        refine ⟨_, _, _, _, _, ⟨r_put hw.1 f cv o a b, h_put (x := (f, cv, o, a, b)) hw.2.1 (by omega) hp hk, nd_app hw.2.2.1 hout, by rw [len_app]; omega⟩, ?_⟩
        rw [len_app]
      · skip
        have hE : addE f cv o a b es = es := by
          rcases hs with q | ⟨i, hi, hv, he⟩
          · exact absurd (t_eq.mp q) h28
          · exact addE_old (Or.inr ⟨i, hi, he⟩)
        refine hR _ _ _ _ _ dX2_add_31 ?_ (by omega) (by omega)
        rw [hE]; exact ⟨_, _, _, _, _, hw, rfl⟩


abbrev rm_t_X2_make : Room := ({ frames := 5, cells := 0, slots := 0, locals := 127 } : Room)
set_option maxHeartbeats 4000000 in
set_option maxRecDepth 100000 in
theorem t_X2_make (l : Launch) (D : va_G) (ty : g_T3) (k0 kf ko ka kb kt kl kp : Nat) (es : List Ent) (fF : Nat → Int64) (oF aF bF tF sF pF : Nat → Int32) (hw : rowOk es fF oF aF bF sF) (s0 sp sa sc : Nat) (p2 : Nat → Nat) (al cs : Nat → Bool) (hp : (∀ k, k < 10 → 1 ≤ p2 k ∧ p2 k ≤ 5) ∧ p2 10 ≤ 5) (bd : Nat) (hb : bd ≤ 6) : g_U l yX2_make wsX2_make rm_t_X2_make D ty g_XN [.ref k0, .int (nI bd), .ref s0] [(k0, .inr (1, [.int (nI es.length), .ref kf, .ref ko, .ref ka, .ref kb, .ref kt, .ref kl, .ref kp])), (kf, .inl (ty.2.1, 2000, .inr (.inl fF))), (ko, .inl (ty.1, 2000, .inl oF)), (ka, .inl (ty.1, 2000, .inl aF)), (kb, .inl (ty.1, 2000, .inl bF)), (kt, .inl (ty.1, 8, .inl tF)), (kl, .inl (ty.1, 4096, .inl sF)), (s0, .inr (2, [.ref sp, .ref sa, .ref sc])), (sp, .inl (ty.1, 11, .inl (zN p2))), (sa, .inl (ty.2.2, 10, .inl (zB al))), (sc, .inl (ty.2.2, 16, .inl (zB cs)))] 0 0 (g_uv (fun w => ∃ (fF2 : Nat → Int64) (oF2 aF2 bF2 tF2 sF2 : Nat → Int32), rowOk (sq p2 al cs bd 8).2 fF2 oF2 aF2 bF2 sF2 ∧ (∀ j, j < 8 → tF2 j = nI ((sq p2 al cs bd 8).1 j)) ∧ w = [(k0, .inr (1, [.int (nI ((sq p2 al cs bd 8).2.length)), .ref kf, .ref ko, .ref ka, .ref kb, .ref kt, .ref kl, .ref kp])), (kf, .inl (ty.2.1, 2000, .inr (.inl fF2))), (ko, .inl (ty.1, 2000, .inl oF2)), (ka, .inl (ty.1, 2000, .inl aF2)), (kb, .inl (ty.1, 2000, .inl bF2)), (kt, .inl (ty.1, 8, .inl tF2)), (kl, .inl (ty.1, 4096, .inl sF2)), (s0, .inr (2, [.ref sp, .ref sa, .ref sc])), (sp, .inl (ty.1, 11, .inl (zN p2))), (sa, .inl (ty.2.2, 10, .inl (zB al))), (sc, .inl (ty.2.2, 16, .inl (zB cs)))])) := by
  refine g_ofUv (cc := cX2_make) (nL := 4) (own := RX2) (by decide) rfl rfl g_XN_ok (Nat.le_of_ble_eq_true rfl) ?_
  intro p e s m args below meth c Q A C hA hX hin hR
  refine g_lv (lv' := [(0, .ref k0), (1, .int (nI bd)), (2, .ref s0)]) [0, 1, 2] rfl ?_
  refine g_aload_n C dX2_make_0 0 rfl rfl ?_
  refine g_iconst C dX2_make_1 (v := (nI 0)) (by decide) ?_
  refine g_put C 0 rfl rfl 0 (by decide) (fun _ h => (List.mem_cons_of_mem _ (List.mem_append_left _ (List.mem_append_right _ h)))) 1 rfl rfl tyX2 tyX2_ok nmX2 rfl rfl rfl rfl (Nat.le_of_ble_eq_true rfl) (ws' := [(k0, .inr (1, [.int (nI 0), .ref kf, .ref ko, .ref ka, .ref kb, .ref kt, .ref kl, .ref kp])), (kf, .inl (ty.2.1, 2000, .inr (.inl fF))), (ko, .inl (ty.1, 2000, .inl oF)), (ka, .inl (ty.1, 2000, .inl aF)), (kb, .inl (ty.1, 2000, .inl bF)), (kt, .inl (ty.1, 8, .inl tF)), (kl, .inl (ty.1, 4096, .inl sF)), (s0, .inr (2, [.ref sp, .ref sa, .ref sc])), (sp, .inl (ty.1, 11, .inl (zN p2))), (sa, .inl (ty.2.2, 10, .inl (zB al))), (sc, .inl (ty.2.2, 16, .inl (zB cs)))]) rfl dX2_make_2 ?_
  refine g_aload_n C dX2_make_5 0 rfl rfl ?_
  refine g_get C 0 rfl rfl 6 (by decide) (fun _ h => (List.mem_cons_of_mem _ (List.mem_append_left _ (List.mem_append_right _ h)))) 2 rfl rfl rfl dX2_make_6 ?_
  refine g_iconst C dX2_make_9 (v := (-1)) (by decide) ?_
  refine g_callUS C ⟨g_X0_ok, trivial⟩ (t_J7_fill_53178 l D ty kl 4096 (by decide) sF (-1)) rfl gX2_make_J7_fill_53178 2 (by decide +kernel) rfl ⟨rfl, rfl⟩ ⟨Nat.le_of_ble_eq_true rfl, Nat.le_of_ble_eq_true rfl⟩ (rest := []) hA [6] [0, 1, 2, 3, 4, 5, 7, 8, 9, 10] rfl rfl rfl (wr := [(k0, .inr (1, [.int (nI 0), .ref kf, .ref ko, .ref ka, .ref kb, .ref kt, .ref kl, .ref kp])), (kf, .inl (ty.2.1, 2000, .inr (.inl fF))), (ko, .inl (ty.1, 2000, .inl oF)), (ka, .inl (ty.1, 2000, .inl aF)), (kb, .inl (ty.1, 2000, .inl bF)), (kt, .inl (ty.1, 8, .inl tF)), (s0, .inr (2, [.ref sp, .ref sa, .ref sc])), (sp, .inl (ty.1, 11, .inl (zN p2))), (sa, .inl (ty.2.2, 10, .inl (zB al))), (sc, .inl (ty.2.2, 16, .inl (zB cs)))]) rfl rfl rfl (Nat.le_of_ble_eq_true rfl) dX2_make_10 ⟨Nat.le_of_ble_eq_true rfl, Nat.le_of_ble_eq_true rfl⟩ rfl (g_kuv (fun w hr => ?_))
  obtain ⟨sF10, hf10, rfl⟩ := hr
  refine g_ws (ws' := [(k0, .inr (1, [.int (nI 0), .ref kf, .ref ko, .ref ka, .ref kb, .ref kt, .ref kl, .ref kp])), (kf, .inl (ty.2.1, 2000, .inr (.inl fF))), (ko, .inl (ty.1, 2000, .inl oF)), (ka, .inl (ty.1, 2000, .inl aF)), (kb, .inl (ty.1, 2000, .inl bF)), (kt, .inl (ty.1, 8, .inl tF)), (kl, .inl (ty.1, 4096, .inl sF10)), (s0, .inr (2, [.ref sp, .ref sa, .ref sc])), (sp, .inl (ty.1, 11, .inl (zN p2))), (sa, .inl (ty.2.2, 10, .inl (zB al))), (sc, .inl (ty.2.2, 16, .inl (zB cs)))]) [0, 1, 2, 3, 4, 5, 10, 6, 7, 8, 9] rfl rfl rfl ?_
  refine g_iconst C dX2_make_13 (v := (nI 0)) (by decide) ?_
  refine g_istore_n C dX2_make_14 rfl (by decide) (lv' := [(3, .int (nI 0)), (0, .ref k0), (1, .int (nI bd)), (2, .ref s0)]) rfl ?_
  have L15 : ∀ (n9 : Nat) (cq : Nat) (fF1 : Nat → Int64) (oF1 aF1 bF1 sF1 tF1 : Nat → Int32), 8 - cq < n9 → (cq ≤ 8) → (rowOk (sq p2 al cs bd cq).2 fF1 oF1 aF1 bF1 sF1) → (∀ j, j < cq → tF1 j = nI ((sq p2 al cs bd cq).1 j)) → gG (g_IU A D s) p l e rm_t_X2_make s m args below meth c Q 4 0 0 15 [(3, .int (nI cq)), (0, .ref k0), (1, .int (nI bd)), (2, .ref s0)] [] [(k0, .inr (1, [.int (nI ((sq p2 al cs bd cq).2.length)), .ref kf, .ref ko, .ref ka, .ref kb, .ref kt, .ref kl, .ref kp])), (kf, .inl (ty.2.1, 2000, .inr (.inl fF1))), (ko, .inl (ty.1, 2000, .inl oF1)), (ka, .inl (ty.1, 2000, .inl aF1)), (kb, .inl (ty.1, 2000, .inl bF1)), (kt, .inl (ty.1, 8, .inl tF1)), (kl, .inl (ty.1, 4096, .inl sF1)), (s0, .inr (2, [.ref sp, .ref sa, .ref sc])), (sp, .inl (ty.1, 11, .inl (zN p2))), (sa, .inl (ty.2.2, 10, .inl (zB al))), (sc, .inl (ty.2.2, 16, .inl (zB cs)))] := by
    intro n9
    induction n9 with
    | zero => intro cq fF1 oF1 aF1 bF1 sF1 tF1 hn; exact absurd hn (Nat.not_lt_zero _)
    | succ n9 ih15 =>
      intro cq fF1 oF1 aF1 bF1 sF1 tF1 hn15 hc hw1 ht
      have hl1b := hw1.2.2.2
      refine g_iload_n C dX2_make_15 0 rfl rfl ?_
      refine g_aload_n C dX2_make_16 1 rfl rfl ?_
      refine g_get C 0 rfl rfl 5 (by decide) (fun _ h => (List.mem_cons_of_mem _ (List.mem_append_left _ (List.mem_append_right _ h)))) 3 rfl rfl rfl dX2_make_17 ?_
      refine g_alen C (v := nI 8) 5 rfl (t0 := 0) rfl rfl dX2_make_20 ?_
      refine g_icmp_geN C dX2_make_21 (tgt := 57) (by decide) (by omega) (by omega) (fun h21 => ?_) (fun h21 => ?_)
      · skip
        obtain rfl : cq = 8 := by omega
        refine hR _ _ _ _ _ dX2_make_57 ?_ (by omega) (by omega)
        exact ⟨_, _, _, _, _, _, hw1, ht, rfl⟩
      · skip
        refine g_aload_n C dX2_make_24 1 rfl rfl ?_
        refine g_get C 0 rfl rfl 5 (by decide) (fun _ h => (List.mem_cons_of_mem _ (List.mem_append_left _ (List.mem_append_right _ h)))) 3 rfl rfl rfl dX2_make_25 ?_
        refine g_iload_n C dX2_make_28 0 rfl rfl ?_
        refine g_aload_n C dX2_make_29 1 rfl rfl ?_
        refine g_get C 0 rfl rfl 0 (by decide) (fun _ h => (List.mem_cons_of_mem _ (List.mem_append_left _ (List.mem_append_right _ h)))) 1 rfl rfl rfl dX2_make_30 ?_
        refine g_iast C 5 rfl (by omega) (by omega) (f' := upd tF1 cq (nI ((sq p2 al cs bd cq).2.length))) rfl (ws' := [(k0, .inr (1, [.int (nI ((sq p2 al cs bd cq).2.length)), .ref kf, .ref ko, .ref ka, .ref kb, .ref kt, .ref kl, .ref kp])), (kf, .inl (ty.2.1, 2000, .inr (.inl fF1))), (ko, .inl (ty.1, 2000, .inl oF1)), (ka, .inl (ty.1, 2000, .inl aF1)), (kb, .inl (ty.1, 2000, .inl bF1)), (kt, .inl (ty.1, 8, .inl (upd tF1 cq (nI ((sq p2 al cs bd cq).2.length))))), (kl, .inl (ty.1, 4096, .inl sF1)), (s0, .inr (2, [.ref sp, .ref sa, .ref sc])), (sp, .inl (ty.1, 11, .inl (zN p2))), (sa, .inl (ty.2.2, 10, .inl (zB al))), (sc, .inl (ty.2.2, 16, .inl (zB cs)))]) rfl dX2_make_33 ?_
        refine g_iload_n C dX2_make_34 0 rfl rfl ?_
        refine g_iload_n C dX2_make_35 2 rfl rfl ?_
        refine g_icmp_gtN C dX2_make_36 (tgt := 51) (by decide) (by omega) (by omega) (fun h36 => ?_) (fun h36 => ?_)
        · skip
          have hw2 := hw1
          rw [← sq_out (show ¬ cq ≤ bd by omega)] at hw2
          refine g_is (ws2 := [(k0, .inr (1, [.int (nI ((sq p2 al cs bd (cq + 1)).2.length)), .ref kf, .ref ko, .ref ka, .ref kb, .ref kt, .ref kl, .ref kp])), (kf, .inl (ty.2.1, 2000, .inr (.inl fF1))), (ko, .inl (ty.1, 2000, .inl oF1)), (ka, .inl (ty.1, 2000, .inl aF1)), (kb, .inl (ty.1, 2000, .inl bF1)), (kt, .inl (ty.1, 8, .inl (upd tF1 cq (nI ((sq p2 al cs bd cq).2.length))))), (kl, .inl (ty.1, 4096, .inl sF1)), (s0, .inr (2, [.ref sp, .ref sa, .ref sc])), (sp, .inl (ty.1, 11, .inl (zN p2))), (sa, .inl (ty.2.2, 10, .inl (zB al))), (sc, .inl (ty.2.2, 16, .inl (zB cs)))]) ?_ rfl rfl rfl (by rw [sq_out (show ¬ cq ≤ bd by omega)])
          refine g_iinc C dX2_make_51 0 rfl (v := (nI (cq + 1))) (nI_1 cq) (by decide) (lv' := [(3, .int (nI (cq + 1))), (0, .ref k0), (1, .int (nI bd)), (2, .ref s0)]) rfl ?_
          refine g_goto C dX2_make_54 (tgt := 15) (by decide) ?_
          exact ih15 (cq + 1) fF1 oF1 aF1 bF1 sF1 (upd tF1 cq (nI ((sq p2 al cs bd cq).2.length))) (by omega) (by omega) hw2 (fun j hj => by by_cases q : j = cq; subst q; rw [pk_us, sq_st]; rw [pk_un q, sq_st_ne q]; exact ht j (by omega))
        · skip
          refine g_iload_n C dX2_make_39 0 rfl rfl ?_
          refine g_bipush C dX2_make_40 (v := (nI 6)) (by decide) ?_
          refine g_icmp_gtN C dX2_make_42 (tgt := 51) (by decide) (by omega) (by omega) (fun h42 => ?_) (fun h42 => ?_)
          · skip
            exact absurd h42 (by omega)
          · skip
            refine g_aload_n C dX2_make_45 1 rfl rfl ?_
            refine g_iload_n C dX2_make_46 0 rfl rfl ?_
            refine g_aload_n C dX2_make_47 3 rfl rfl ?_
            refine g_callUV C hX (t_X2_makeCost l D ty k0 kf ko ka kb kt kl kp ((sq p2 al cs bd cq).2) fF1 oF1 aF1 bF1 (upd tF1 cq (nI ((sq p2 al cs bd cq).2.length))) sF1 pF hw1 s0 sp sa sc p2 al cs hp ((sq p2 al cs bd (cq + 1)).1) cq (sq_ok (by omega) ht) (by omega)) rfl gX2_make_X2_makeCost 2 (by decide +kernel) rfl ⟨rfl, rfl⟩ ⟨Nat.le_of_ble_eq_true rfl, Nat.le_of_ble_eq_true rfl⟩ (rest := []) (q0 := 0) rfl rfl hA [0, 1, 2, 3, 4, 5, 6, 7, 8, 9, 10] [] rfl rfl rfl (wr := []) rfl rfl rfl (Nat.le_of_ble_eq_true rfl) dX2_make_48 ⟨Nat.le_of_ble_eq_true rfl, Nat.le_of_ble_eq_true rfl⟩ rfl (g_kuv (fun w hr => ?_))
            obtain ⟨fF48, oF48, aF48, bF48, sF48, hw48, rfl⟩ := hr
            rw [← sq_in (show cq ≤ bd by omega)] at hw48 ⊢
            refine g_ws (ws' := [(k0, .inr (1, [.int (nI ((sq p2 al cs bd (cq + 1)).2.length)), .ref kf, .ref ko, .ref ka, .ref kb, .ref kt, .ref kl, .ref kp])), (kf, .inl (ty.2.1, 2000, .inr (.inl fF48))), (ko, .inl (ty.1, 2000, .inl oF48)), (ka, .inl (ty.1, 2000, .inl aF48)), (kb, .inl (ty.1, 2000, .inl bF48)), (kt, .inl (ty.1, 8, .inl (upd tF1 cq (nI ((sq p2 al cs bd cq).2.length))))), (kl, .inl (ty.1, 4096, .inl sF48)), (s0, .inr (2, [.ref sp, .ref sa, .ref sc])), (sp, .inl (ty.1, 11, .inl (zN p2))), (sa, .inl (ty.2.2, 10, .inl (zB al))), (sc, .inl (ty.2.2, 16, .inl (zB cs)))]) [0, 1, 2, 3, 4, 5, 6, 7, 8, 9, 10] rfl rfl rfl ?_
            refine g_iinc C dX2_make_51 0 rfl (v := (nI (cq + 1))) (nI_1 cq) (by decide) (lv' := [(3, .int (nI (cq + 1))), (0, .ref k0), (1, .int (nI bd)), (2, .ref s0)]) rfl ?_
            refine g_goto C dX2_make_54 (tgt := 15) (by decide) ?_
            exact ih15 (cq + 1) fF48 oF48 aF48 bF48 sF48 (upd tF1 cq (nI ((sq p2 al cs bd cq).2.length))) (by omega) (by omega) hw48 (fun j hj => by by_cases q : j = cq; subst q; rw [pk_us, sq_st]; rw [pk_un q, sq_st_ne q]; exact ht j (by omega))
  exact L15 _ 0 fF oF aF bF sF10 tF (Nat.lt_succ_self _) (by omega) (row_none hf10) (fun j hj => absurd hj (Nat.not_lt_zero j))


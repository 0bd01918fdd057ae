abbrev rm_t_X6_no : Room := ({ frames := 0, cells := 0, slots := 0, locals := 0 } : Room)
set_option maxHeartbeats 4000000 in
set_option maxRecDepth 100000 in
theorem t_X6_no (l : Launch) (D : va_G) (ty : g_T3) (n0 np na nc nf nq no nx ny nl nh nb nw nt : Nat) (th cp pl tl av wr : Int32) (rs : Int64) (en : Int32) (kv : Int32) : g_U l yX6_no wsX6_no rm_t_X6_no D ty g_X0 [.ref n0, .int kv] [(n0, .inr (5, [.int th, .ref np, .ref na, .int cp, .ref nc, .int en, .ref nf, .ref nq, .ref no, .ref nx, .ref ny, .ref nl, .ref nh, .ref nb, .ref nw, .int pl, .ref nt, .int tl, .int av, .int wr, .long rs]))] 0 0 (g_ui (fun r w => r = nI 0 ∧ w = [(n0, .inr (5, [.int kv, .ref np, .ref na, .int cp, .ref nc, .int en, .ref nf, .ref nq, .ref no, .ref nx, .ref ny, .ref nl, .ref nh, .ref nb, .ref nw, .int pl, .ref nt, .int tl, .int av, .int wr, .long rs]))])) := by
  refine g_ofUi (cc := cX6_no) (nL := 2) (own := RX6) (by decide) rfl rfl g_X0_ok (Nat.le_of_ble_eq_true rfl) ?_
  intro p e s m args below meth c Q A C hA hX hin hR
  refine g_lv (lv' := [(0, .ref n0), (1, .int kv)]) [0, 1] rfl ?_
  refine g_aload_n C dX6_no_0 0 rfl rfl ?_
  refine g_iload_n C dX6_no_1 1 rfl rfl ?_
  refine g_put C 0 rfl rfl 0 (by decide) (fun _ h => (List.mem_cons_of_mem _ (List.mem_append_right _ h))) 1 rfl rfl tyX6 tyX6_ok nmX6 rfl rfl rfl rfl (Nat.le_of_ble_eq_true rfl) (ws' := [(n0, .inr (5, [.int kv, .ref np, .ref na, .int cp, .ref nc, .int en, .ref nf, .ref nq, .ref no, .ref nx, .ref ny, .ref nl, .ref nh, .ref nb, .ref nw, .int pl, .ref nt, .int tl, .int av, .int wr, .long rs]))]) rfl dX6_no_2 ?_
  refine g_iconst C dX6_no_5 (v := (nI 0)) (by decide) ?_
  refine hR _ _ _ _ _ _ dX6_no_6 ?_ (by omega) (by omega)
  exact ⟨rfl, rfl⟩

abbrev rm_t_X6_addAll : Room := ({ frames := 3, cells := 0, slots := 0, locals := 70 } : Room)
set_option maxHeartbeats 4000000 in
set_option maxRecDepth 100000 in
theorem t_X6_addAll (l : Launch) (D : va_G) (ty : g_T3) (n0 np na nc nf nq no nx ny nl nh nb nw nt : Nat) (th cp pl tl av wr : Int32) (rs : Int64) (p2 : Nat → Nat) (gM : Nat → Int32) (es : List Ent) (fM : Nat → Int64) (qM oM aM bM lM hM : Nat → Int32) (hw : modOk es fM qM oM aM bM lM hM) (st : Nat → Nat) (op cv : Nat) (hs : stOk st gM cv es.length) (hop : op < 10) (hp1 : 1 ≤ p2 op) (hp2 : p2 op ≤ cv) (hc6 : cv ≤ 6) : g_U l yX6_addAll wsX6_addAll rm_t_X6_addAll D ty g_X0 [.ref n0, .int (nI cv), .int (nI op)] [(n0, .inr (5, [.int th, .ref np, .ref na, .int cp, .ref nc, .int (nI es.length), .ref nf, .ref nq, .ref no, .ref nx, .ref ny, .ref nl, .ref nh, .ref nb, .ref nw, .int pl, .ref nt, .int tl, .int av, .int wr, .long rs])), (np, .inl (ty.1, 10, .inl (zN p2))), (nf, .inl (ty.2.1, 2000, .inr (.inl fM))), (nq, .inl (ty.1, 2000, .inl qM)), (no, .inl (ty.1, 2000, .inl oM)), (nx, .inl (ty.1, 2000, .inl aM)), (ny, .inl (ty.1, 2000, .inl bM)), (nl, .inl (ty.1, 1024, .inl lM)), (nh, .inl (ty.1, 2000, .inl hM)), (nb, .inl (ty.1, 8, .inl gM))] 0 0 (g_uv (fun w => ∃ (fM2 : Nat → Int64) (qM2 oM2 aM2 bM2 lM2 hM2 : Nat → Int32), modOk (if 4 ≤ op then twoA op cv st (cv - p2 op) ((cv - p2 op) + 1) 0 es else oneN op cv (st ((cv - p2 op) + 1) - st (cv - p2 op)) (st (cv - p2 op)) es) fM2 qM2 oM2 aM2 bM2 lM2 hM2 ∧ w = [(n0, .inr (5, [.int th, .ref np, .ref na, .int cp, .ref nc, .int (nI ((if 4 ≤ op then twoA op cv st (cv - p2 op) ((cv - p2 op) + 1) 0 es else oneN op cv (st ((cv - p2 op) + 1) - st (cv - p2 op)) (st (cv - p2 op)) es).length)), .ref nf, .ref nq, .ref no, .ref nx, .ref ny, .ref nl, .ref nh, .ref nb, .ref nw, .int pl, .ref nt, .int tl, .int av, .int wr, .long rs])), (np, .inl (ty.1, 10, .inl (zN p2))), (nf, .inl (ty.2.1, 2000, .inr (.inl fM2))), (nq, .inl (ty.1, 2000, .inl qM2)), (no, .inl (ty.1, 2000, .inl oM2)), (nx, .inl (ty.1, 2000, .inl aM2)), (ny, .inl (ty.1, 2000, .inl bM2)), (nl, .inl (ty.1, 1024, .inl lM2)), (nh, .inl (ty.1, 2000, .inl hM2)), (nb, .inl (ty.1, 8, .inl gM))])) := by
  refine g_ofUv (cc := cX6_addAll) (nL := 7) (own := RX6) (by decide) rfl rfl g_X0_ok (Nat.le_of_ble_eq_true rfl) ?_
  intro p e s m args below meth c Q A C hA hX hin hR
  refine g_lv (lv' := [(0, .ref n0), (1, .int (nI cv)), (2, .int (nI op))]) [0, 1, 2] rfl ?_
  have hl0 := hw.2.2.2.2
  refine g_iload_n C dX6_addAll_0 1 rfl rfl ?_
  refine g_aload_n C dX6_addAll_1 0 rfl rfl ?_
  refine g_get C 0 rfl rfl 1 (by decide) (fun _ h => (List.mem_cons_of_mem _ (List.mem_append_right _ h))) 1 rfl rfl rfl dX6_addAll_2 ?_
  refine g_iload_n C dX6_addAll_5 2 rfl rfl ?_
  refine g_iald C (v := (nI (p2 op))) 1 rfl (by omega) (by omega) rfl dX6_addAll_6 ?_
  refine g_isub C dX6_addAll_7 (v := (nI (cv - (p2 op)))) (pk_sub (by omega)) ?_
  refine g_istore_n C dX6_addAll_8 rfl (by decide) (lv' := [(3, .int (nI (cv - (p2 op)))), (0, .ref n0), (1, .int (nI cv)), (2, .int (nI op))]) rfl ?_
  refine g_iload_n C dX6_addAll_9 3 rfl rfl ?_
  refine g_iconst C dX6_addAll_10 (v := (nI 4)) (by decide) ?_
  refine g_icmp_geN C dX6_addAll_11 (tgt := 63) (by decide) (by omega) (by omega) (fun h11 => ?_) (fun h11 => ?_)
  · skip
    refine g_iconst C dX6_addAll_63 (v := (nI 0)) (by decide) ?_
    refine g_istore C dX6_addAll_64 (by decide) (lv' := [(4, .int (nI 0)), (3, .int (nI (cv - (p2 op)))), (0, .ref n0), (1, .int (nI cv)), (2, .int (nI op))]) rfl ?_
    have L66 : ∀ (n9 : Nat) (a : Nat) (es2 : List Ent) (fM2 : Nat → Int64) (qM2 oM2 aM2 bM2 lM2 hM2 : Nat → Int32), (cv - p2 op) + 1 - a < n9 → (a ≤ (cv - p2 op) + 1) → (modOk es2 fM2 qM2 oM2 aM2 bM2 lM2 hM2) → (es.length ≤ es2.length) → (twoA op cv st (cv - p2 op) ((cv - p2 op) + 1 - a) a es2 = twoA op cv st (cv - p2 op) ((cv - p2 op) + 1) 0 es) → gG (g_IU A D s) p l e rm_t_X6_addAll s m args below meth c Q 7 0 0 66 [(4, .int (nI a)), (3, .int (nI (cv - p2 op))), (0, .ref n0), (1, .int (nI cv)), (2, .int (nI op))] [] [(n0, .inr (5, [.int th, .ref np, .ref na, .int cp, .ref nc, .int (nI es2.length), .ref nf, .ref nq, .ref no, .ref nx, .ref ny, .ref nl, .ref nh, .ref nb, .ref nw, .int pl, .ref nt, .int tl, .int av, .int wr, .long rs])), (np, .inl (ty.1, 10, .inl (zN p2))), (nf, .inl (ty.2.1, 2000, .inr (.inl fM2))), (nq, .inl (ty.1, 2000, .inl qM2)), (no, .inl (ty.1, 2000, .inl oM2)), (nx, .inl (ty.1, 2000, .inl aM2)), (ny, .inl (ty.1, 2000, .inl bM2)), (nl, .inl (ty.1, 1024, .inl lM2)), (nh, .inl (ty.1, 2000, .inl hM2)), (nb, .inl (ty.1, 8, .inl gM))] := by
      intro n9
      induction n9 with
      | zero => intro a es2 fM2 qM2 oM2 aM2 bM2 lM2 hM2 hn; exact absurd hn (Nat.not_lt_zero _)
      | succ n9 ih66 =>
        intro a es2 fM2 qM2 oM2 aM2 bM2 lM2 hM2 hn66 ha hw2 hl2 hT
        refine g_iload C dX6_addAll_66 0 rfl ?_
        refine g_iload_n C dX6_addAll_68 1 rfl rfl ?_
        refine g_icmp_gtN C dX6_addAll_69 (tgt := 178) (by decide) (by omega) (by omega) (fun h69 => ?_) (fun h69 => ?_)
        · skip
          have hE : es2 = (if 4 ≤ op then twoA op cv st (cv - p2 op) ((cv - p2 op) + 1) 0 es else oneN op cv (st ((cv - p2 op) + 1) - st (cv - p2 op)) (st (cv - p2 op)) es) := by rw [if_pos (by omega), ← hT, show (cv - p2 op) + 1 - a = 0 by omega]; rfl
          refine hR _ _ _ _ _ dX6_addAll_178 ?_ (by omega) (by omega)
          rw [← hE]
          exact ⟨_, _, _, _, _, _, _, hw2, rfl⟩
        · skip
          have hmn := hs.2.2.2 a (a + 1) (by omega) (by omega)
          have hmn2 := hs.2.2.2 ((cv - p2 op) - a) ((cv - p2 op) - a + 1) (by omega) (by omega)
          have hb1 := hs.2.2.1 (a + 1) (by omega)
          have hb2 := hs.2.2.1 ((cv - p2 op) - a + 1) (by omega)
          have hb3 := hs.2.2.1 a (by omega)
          refine g_aload_n C dX6_addAll_72 2 rfl rfl ?_
          refine g_get C 0 rfl rfl 13 (by decide) (fun _ h => (List.mem_cons_of_mem _ (List.mem_append_right _ h))) 2 rfl rfl rfl dX6_addAll_73 ?_
          refine g_iload C dX6_addAll_76 0 rfl ?_
          refine g_iald C (v := (nI (st a))) 9 rfl (by omega) (by omega) (hs.2.1 _ (by omega)) dX6_addAll_78 ?_
          refine g_istore C dX6_addAll_79 (by decide) (lv' := [(5, .int (nI (st a))), (4, .int (nI a)), (3, .int (nI (cv - p2 op))), (0, .ref n0), (1, .int (nI cv)), (2, .int (nI op))]) rfl ?_
          have L81 : ∀ (n9 : Nat) (i : Nat) (es3 : List Ent) (fM3 : Nat → Int64) (qM3 oM3 aM3 bM3 lM3 hM3 : Nat → Int32), st (a + 1) - i < n9 → (i ≤ st (a + 1)) → (modOk es3 fM3 qM3 oM3 aM3 bM3 lM3 hM3) → (es.length ≤ es3.length) → (twoA op cv st (cv - p2 op) ((cv - p2 op) - a) (a + 1) (twoI op cv (st ((cv - p2 op) - a)) (st ((cv - p2 op) - a + 1)) (st (a + 1) - i) i es3) = twoA op cv st (cv - p2 op) ((cv - p2 op) + 1) 0 es) → gG (g_IU A D s) p l e rm_t_X6_addAll s m args below meth c Q 7 0 0 81 [(5, .int (nI i)), (4, .int (nI a)), (3, .int (nI (cv - p2 op))), (0, .ref n0), (1, .int (nI cv)), (2, .int (nI op))] [] [(n0, .inr (5, [.int th, .ref np, .ref na, .int cp, .ref nc, .int (nI es3.length), .ref nf, .ref nq, .ref no, .ref nx, .ref ny, .ref nl, .ref nh, .ref nb, .ref nw, .int pl, .ref nt, .int tl, .int av, .int wr, .long rs])), (np, .inl (ty.1, 10, .inl (zN p2))), (nf, .inl (ty.2.1, 2000, .inr (.inl fM3))), (nq, .inl (ty.1, 2000, .inl qM3)), (no, .inl (ty.1, 2000, .inl oM3)), (nx, .inl (ty.1, 2000, .inl aM3)), (ny, .inl (ty.1, 2000, .inl bM3)), (nl, .inl (ty.1, 1024, .inl lM3)), (nh, .inl (ty.1, 2000, .inl hM3)), (nb, .inl (ty.1, 8, .inl gM))] := by
            intro n9
            induction n9 with
            | zero => intro i es3 fM3 qM3 oM3 aM3 bM3 lM3 hM3 hn; exact absurd hn (Nat.not_lt_zero _)
            | succ n9 ih81 =>
              intro i es3 fM3 qM3 oM3 aM3 bM3 lM3 hM3 hn81 hi hw3 hl3 hT2
              have hl3b := hw3.2.2.2.2
              refine g_iload C dX6_addAll_81 0 rfl ?_
              refine g_aload_n C dX6_addAll_83 3 rfl rfl ?_
              refine g_get C 0 rfl rfl 13 (by decide) (fun _ h => (List.mem_cons_of_mem _ (List.mem_append_right _ h))) 2 rfl rfl rfl dX6_addAll_84 ?_
              refine g_iload C dX6_addAll_87 1 rfl ?_
              refine g_iconst C dX6_addAll_89 (v := (nI 1)) (by decide) ?_
              refine g_iadd C dX6_addAll_90 (v := (nI (a + 1))) (nI_add _ _) ?_
              refine g_iald C (v := (nI (st (a + 1)))) 9 rfl (by omega) (by omega) (hs.2.1 _ (by omega)) dX6_addAll_91 ?_
              refine g_icmp_geN C dX6_addAll_92 (tgt := 172) (by decide) (by omega) (by omega) (fun h92 => ?_) (fun h92 => ?_)
              · skip
                have hT3 : twoA op cv st (cv - p2 op) ((cv - p2 op) - a) (a + 1) es3 = twoA op cv st (cv - p2 op) ((cv - p2 op) + 1) 0 es := by rw [show st (a + 1) - i = 0 by omega] at hT2; exact hT2
                refine g_iinc C dX6_addAll_172 1 rfl (v := (nI (a + 1))) (nI_1 a) (by decide) (lv' := [(4, .int (nI (a + 1))), (5, .int (nI i)), (3, .int (nI (cv - p2 op))), (0, .ref n0), (1, .int (nI cv)), (2, .int (nI op))]) rfl ?_
                refine g_goto C dX6_addAll_175 (tgt := 66) (by decide) ?_
                refine g_lv [0, 2, 3, 4, 5] rfl ?_
                exact ih66 (a + 1) es3 fM3 qM3 oM3 aM3 bM3 lM3 hM3 (by omega) (by omega) hw3 (by omega) (by rw [show (cv - p2 op) + 1 - (a + 1) = (cv - p2 op) - a by omega]; exact hT3)
              · skip
                refine g_aload_n C dX6_addAll_95 3 rfl rfl ?_
                refine g_get C 0 rfl rfl 13 (by decide) (fun _ h => (List.mem_cons_of_mem _ (List.mem_append_right _ h))) 2 rfl rfl rfl dX6_addAll_96 ?_
                refine g_iload_n C dX6_addAll_99 2 rfl rfl ?_
                refine g_iload C dX6_addAll_100 1 rfl ?_
                refine g_isub C dX6_addAll_102 (v := (nI ((cv - p2 op) - a))) (pk_sub (by omega)) ?_
                refine g_iald C (v := (nI (st ((cv - p2 op) - a)))) 9 rfl (by omega) (by omega) (hs.2.1 _ (by omega)) dX6_addAll_103 ?_
                refine g_istore C dX6_addAll_104 (by decide) (lv' := [(6, .int (nI (st ((cv - p2 op) - a)))), (5, .int (nI i)), (4, .int (nI a)), (3, .int (nI (cv - p2 op))), (0, .ref n0), (1, .int (nI cv)), (2, .int (nI op))]) rfl ?_
                have L106 : ∀ (n9 : Nat) (j : Nat) (es4 : List Ent) (fM4 : Nat → Int64) (qM4 oM4 aM4 bM4 lM4 hM4 : Nat → Int32), st ((cv - p2 op) - a + 1) - j < n9 → (j ≤ st ((cv - p2 op) - a + 1)) → (modOk es4 fM4 qM4 oM4 aM4 bM4 lM4 hM4) → (es.length ≤ es4.length) → (twoA op cv st (cv - p2 op) ((cv - p2 op) - a) (a + 1) (twoI op cv (st ((cv - p2 op) - a)) (st ((cv - p2 op) - a + 1)) (st (a + 1) - (i + 1)) (i + 1) (twoJ op cv i (st ((cv - p2 op) - a + 1) - j) j es4)) = twoA op cv st (cv - p2 op) ((cv - p2 op) + 1) 0 es) → gG (g_IU A D s) p l e rm_t_X6_addAll s m args below meth c Q 7 0 0 106 [(6, .int (nI j)), (5, .int (nI i)), (4, .int (nI a)), (3, .int (nI (cv - p2 op))), (0, .ref n0), (1, .int (nI cv)), (2, .int (nI op))] [] [(n0, .inr (5, [.int th, .ref np, .ref na, .int cp, .ref nc, .int (nI es4.length), .ref nf, .ref nq, .ref no, .ref nx, .ref ny, .ref nl, .ref nh, .ref nb, .ref nw, .int pl, .ref nt, .int tl, .int av, .int wr, .long rs])), (np, .inl (ty.1, 10, .inl (zN p2))), (nf, .inl (ty.2.1, 2000, .inr (.inl fM4))), (nq, .inl (ty.1, 2000, .inl qM4)), (no, .inl (ty.1, 2000, .inl oM4)), (nx, .inl (ty.1, 2000, .inl aM4)), (ny, .inl (ty.1, 2000, .inl bM4)), (nl, .inl (ty.1, 1024, .inl lM4)), (nh, .inl (ty.1, 2000, .inl hM4)), (nb, .inl (ty.1, 8, .inl gM))] := by
                  intro n9
                  induction n9 with
                  | zero => intro j es4 fM4 qM4 oM4 aM4 bM4 lM4 hM4 hn; exact absurd hn (Nat.not_lt_zero _)
                  | succ n9 ih106 =>
                    intro j es4 fM4 qM4 oM4 aM4 bM4 lM4 hM4 hn106 hj hw4 hl4 hT5
                    have hl4b := hw4.2.2.2.2
                    refine g_iload C dX6_addAll_106 0 rfl ?_
                    refine g_aload_n C dX6_addAll_108 4 rfl rfl ?_
                    refine g_get C 0 rfl rfl 13 (by decide) (fun _ h => (List.mem_cons_of_mem _ (List.mem_append_right _ h))) 2 rfl rfl rfl dX6_addAll_109 ?_
                    refine g_iload_n C dX6_addAll_112 3 rfl rfl ?_
                    refine g_iload C dX6_addAll_113 2 rfl ?_
                    refine g_isub C dX6_addAll_115 (v := (nI ((cv - p2 op) - a))) (pk_sub (by omega)) ?_
                    refine g_iconst C dX6_addAll_116 (v := (nI 1)) (by decide) ?_
                    refine g_iadd C dX6_addAll_117 (v := (nI (((cv - p2 op) - a) + 1))) (nI_add _ _) ?_
                    refine g_iald C (v := (nI (st ((cv - p2 op) - a + 1)))) 9 rfl (by omega) (by omega) (hs.2.1 _ (by omega)) dX6_addAll_118 ?_
                    refine g_icmp_geN C dX6_addAll_119 (tgt := 166) (by decide) (by omega) (by omega) (fun h119 => ?_) (fun h119 => ?_)
                    · skip
                      have hT4 : twoA op cv st (cv - p2 op) ((cv - p2 op) - a) (a + 1) (twoI op cv (st ((cv - p2 op) - a)) (st ((cv - p2 op) - a + 1)) (st (a + 1) - (i + 1)) (i + 1) es4) = twoA op cv st (cv - p2 op) ((cv - p2 op) + 1) 0 es := by rw [show st ((cv - p2 op) - a + 1) - j = 0 by omega] at hT5; exact hT5
                      refine g_iinc C dX6_addAll_166 1 rfl (v := (nI (i + 1))) (nI_1 i) (by decide) (lv' := [(5, .int (nI (i + 1))), (6, .int (nI j)), (4, .int (nI a)), (3, .int (nI (cv - p2 op))), (0, .ref n0), (1, .int (nI cv)), (2, .int (nI op))]) rfl ?_
                      refine g_goto C dX6_addAll_169 (tgt := 81) (by decide) ?_
                      refine g_lv [0, 2, 3, 4, 5, 6] rfl ?_
                      exact ih81 (i + 1) es4 fM4 qM4 oM4 aM4 bM4 lM4 hM4 (by omega) (by omega) hw4 (by omega) hT4
                    · skip
                      refine g_aload_n C dX6_addAll_122 4 rfl rfl ?_
                      refine g_get C 0 rfl rfl 5 (by decide) (fun _ h => (List.mem_cons_of_mem _ (List.mem_append_right _ h))) 4 rfl rfl rfl dX6_addAll_123 ?_
                      refine g_sipush C dX6_addAll_126 (v := (nI 2000)) (by decide) ?_
                      refine g_icmp_geN C dX6_addAll_129 (tgt := 166) (by decide) (by omega) (by omega) (fun h129 => ?_) (fun h129 => ?_)
                      · skip
                        have hT4 : twoA op cv st (cv - p2 op) ((cv - p2 op) - a) (a + 1) (twoI op cv (st ((cv - p2 op) - a)) (st ((cv - p2 op) - a + 1)) (st (a + 1) - (i + 1)) (i + 1) es4) = twoA op cv st (cv - p2 op) ((cv - p2 op) + 1) 0 es := by rw [twoJ_full (by omega)] at hT5; exact hT5
                        refine g_iinc C dX6_addAll_166 1 rfl (v := (nI (i + 1))) (nI_1 i) (by decide) (lv' := [(5, .int (nI (i + 1))), (6, .int (nI j)), (4, .int (nI a)), (3, .int (nI (cv - p2 op))), (0, .ref n0), (1, .int (nI cv)), (2, .int (nI op))]) rfl ?_
                        refine g_goto C dX6_addAll_169 (tgt := 81) (by decide) ?_
                        refine g_lv [0, 2, 3, 4, 5, 6] rfl ?_
                        exact ih81 (i + 1) es4 fM4 qM4 oM4 aM4 bM4 lM4 hM4 (by omega) (by omega) hw4 (by omega) hT4
                      · skip
                        refine g_aload_n C dX6_addAll_132 4 rfl rfl ?_
                        refine g_iload_n C dX6_addAll_133 6 rfl rfl ?_
                        refine g_aload_n C dX6_addAll_134 4 rfl rfl ?_
                        refine g_get C 0 rfl rfl 6 (by decide) (fun _ h => (List.mem_cons_of_mem _ (List.mem_append_right _ h))) 3 rfl rfl rfl dX6_addAll_135 ?_
                        refine g_iload C dX6_addAll_138 1 rfl ?_
                        refine g_lald C (v := (eF es4 i)) 2 rfl (by omega) (by omega) (hw4.1 i (by omega)).1 dX6_addAll_140 ?_
                        refine g_aload_n C dX6_addAll_141 4 rfl rfl ?_
                        refine g_get C 0 rfl rfl 6 (by decide) (fun _ h => (List.mem_cons_of_mem _ (List.mem_append_right _ h))) 3 rfl rfl rfl dX6_addAll_142 ?_
                        refine g_iload C dX6_addAll_145 0 rfl ?_
                        refine g_lald C (v := (eF es4 j)) 2 rfl (by omega) (by omega) (hw4.1 j (by omega)).1 dX6_addAll_147 ?_
                        refine g_callPS C ⟨g_X0_ok, trivial⟩ (t_X6_made l D ty op (by omega) (eF es4 i) (eF es4 j)) rfl gX6_addAll_X6_made 3 (by decide +kernel) rfl ⟨rfl, rfl⟩ ⟨Nat.le_of_ble_eq_true rfl, Nat.le_of_ble_eq_true rfl⟩ (rest := [.ref n0]) [] rfl (Nat.le_of_ble_eq_true rfl) dX6_addAll_148 ⟨Nat.le_of_ble_eq_true rfl, Nat.le_of_ble_eq_true rfl⟩ rfl (g_kl (fun r hr => ?_))
                        subst hr
                        rw [md_ma (by omega)]
                        refine g_iload_n C dX6_addAll_151 5 rfl rfl ?_
                        refine g_iload_n C dX6_addAll_152 6 rfl rfl ?_
                        refine g_iload C dX6_addAll_153 1 rfl ?_
                        refine g_iload C dX6_addAll_155 0 rfl ?_
                        refine g_callUV C ⟨g_X0_ok, trivial⟩ (t_X6_add l D ty n0 np na nc nf nq no nx ny nl nh nb nw nt th cp pl tl av wr rs es4 fM4 qM4 oM4 aM4 bM4 lM4 hM4 hw4 (maF op (eF es4 i) (eF es4 j)) cv (nI op) (nI i) (nI j)) rfl gX6_addAll_X6_add 5 (by decide +kernel) rfl ⟨rfl, rfl⟩ ⟨Nat.le_of_ble_eq_true rfl, Nat.le_of_ble_eq_true rfl⟩ (rest := []) (q0 := 0) rfl rfl hA [0, 2, 3, 4, 5, 6, 7, 8] [1, 9] rfl rfl rfl (wr := [(np, .inl (ty.1, 10, .inl (zN p2))), (nb, .inl (ty.1, 8, .inl gM))]) rfl rfl rfl (Nat.le_of_ble_eq_true rfl) dX6_addAll_157 ⟨Nat.le_of_ble_eq_true rfl, Nat.le_of_ble_eq_true rfl⟩ rfl (g_kuv (fun w hr => ?_))
                        obtain ⟨fM157, qM157, oM157, aM157, bM157, lM157, hM157, hw157, rfl⟩ := hr
                        have hl157 := addE_len (f := (maF op (eF es4 i) (eF es4 j))) (c := cv) (o := (nI op)) (a := (nI i)) (b := (nI j)) hw4.2.2.2.2
                        refine g_ws (ws' := [(n0, .inr (5, [.int th, .ref np, .ref na, .int cp, .ref nc, .int (nI ((addE (maF op (eF es4 i) (eF es4 j)) cv (nI op) (nI i) (nI j) es4).length)), .ref nf, .ref nq, .ref no, .ref nx, .ref ny, .ref nl, .ref nh, .ref nb, .ref nw, .int pl, .ref nt, .int tl, .int av, .int wr, .long rs])), (np, .inl (ty.1, 10, .inl (zN p2))), (nf, .inl (ty.2.1, 2000, .inr (.inl fM157))), (nq, .inl (ty.1, 2000, .inl qM157)), (no, .inl (ty.1, 2000, .inl oM157)), (nx, .inl (ty.1, 2000, .inl aM157)), (ny, .inl (ty.1, 2000, .inl bM157)), (nl, .inl (ty.1, 1024, .inl lM157)), (nh, .inl (ty.1, 2000, .inl hM157)), (nb, .inl (ty.1, 8, .inl gM))]) [2, 0, 3, 4, 5, 6, 7, 8, 9, 1] rfl rfl rfl ?_
                        refine g_iinc C dX6_addAll_160 0 rfl (v := (nI (j + 1))) (nI_1 j) (by decide) (lv' := [(6, .int (nI (j + 1))), (5, .int (nI i)), (4, .int (nI a)), (3, .int (nI (cv - p2 op))), (0, .ref n0), (1, .int (nI cv)), (2, .int (nI op))]) rfl ?_
                        refine g_goto C dX6_addAll_163 (tgt := 106) (by decide) ?_
                        exact ih106 (j + 1) (addE (maF op (eF es4 i) (eF es4 j)) cv (nI op) (nI i) (nI j) es4) fM157 qM157 oM157 aM157 bM157 lM157 hM157 (by omega) (by omega) hw157 (by omega) (by rw [show st ((cv - p2 op) - a + 1) - j = (st ((cv - p2 op) - a + 1) - (j + 1)) + 1 by omega] at hT5; exact hT5)
                exact L106 _ (st ((cv - p2 op) - a)) es3 fM3 qM3 oM3 aM3 bM3 lM3 hM3 (Nat.lt_succ_self _) hmn2 hw3 hl3 (by rw [show st (a + 1) - i = (st (a + 1) - (i + 1)) + 1 by omega] at hT2; exact hT2)
          exact L81 _ (st a) es2 fM2 qM2 oM2 aM2 bM2 lM2 hM2 (Nat.lt_succ_self _) hmn hw2 hl2 (by rw [show (cv - p2 op) + 1 - a = ((cv - p2 op) - a) + 1 by omega] at hT; exact hT)
    exact L66 _ 0 es fM qM oM aM bM lM hM (Nat.lt_succ_self _) (by omega) hw (Nat.le_refl _) rfl
  · skip
    have hmn := hs.2.2.2 (cv - p2 op) ((cv - p2 op) + 1) (by omega) (by omega)
    have hb1 := hs.2.2.1 ((cv - p2 op) + 1) (by omega)
    refine g_aload_n C dX6_addAll_14 1 rfl rfl ?_
    refine g_get C 0 rfl rfl 13 (by decide) (fun _ h => (List.mem_cons_of_mem _ (List.mem_append_right _ h))) 2 rfl rfl rfl dX6_addAll_15 ?_
    refine g_iload_n C dX6_addAll_18 0 rfl rfl ?_
    refine g_iald C (v := (nI (st (cv - p2 op)))) 9 rfl (by omega) (by omega) (hs.2.1 _ (by omega)) dX6_addAll_19 ?_
    refine g_istore C dX6_addAll_20 (by decide) (lv' := [(4, .int (nI (st (cv - p2 op)))), (3, .int (nI (cv - (p2 op)))), (0, .ref n0), (1, .int (nI cv)), (2, .int (nI op))]) rfl ?_
    have L22 : ∀ (n9 : Nat) (i : Nat) (es1 : List Ent) (fM1 : Nat → Int64) (qM1 oM1 aM1 bM1 lM1 hM1 : Nat → Int32), st ((cv - p2 op) + 1) - i < n9 → (i ≤ st ((cv - p2 op) + 1)) → (modOk es1 fM1 qM1 oM1 aM1 bM1 lM1 hM1) → (es.length ≤ es1.length) → (oneN op cv (st ((cv - p2 op) + 1) - i) i es1 = oneN op cv (st ((cv - p2 op) + 1) - st (cv - p2 op)) (st (cv - p2 op)) es) → gG (g_IU A D s) p l e rm_t_X6_addAll s m args below meth c Q 7 0 0 22 [(4, .int (nI i)), (3, .int (nI (cv - p2 op))), (0, .ref n0), (1, .int (nI cv)), (2, .int (nI op))] [] [(n0, .inr (5, [.int th, .ref np, .ref na, .int cp, .ref nc, .int (nI es1.length), .ref nf, .ref nq, .ref no, .ref nx, .ref ny, .ref nl, .ref nh, .ref nb, .ref nw, .int pl, .ref nt, .int tl, .int av, .int wr, .long rs])), (np, .inl (ty.1, 10, .inl (zN p2))), (nf, .inl (ty.2.1, 2000, .inr (.inl fM1))), (nq, .inl (ty.1, 2000, .inl qM1)), (no, .inl (ty.1, 2000, .inl oM1)), (nx, .inl (ty.1, 2000, .inl aM1)), (ny, .inl (ty.1, 2000, .inl bM1)), (nl, .inl (ty.1, 1024, .inl lM1)), (nh, .inl (ty.1, 2000, .inl hM1)), (nb, .inl (ty.1, 8, .inl gM))] := by
      intro n9
      induction n9 with
      | zero => intro i es1 fM1 qM1 oM1 aM1 bM1 lM1 hM1 hn; exact absurd hn (Nat.not_lt_zero _)
      | succ n9 ih22 =>
        intro i es1 fM1 qM1 oM1 aM1 bM1 lM1 hM1 hn22 hi hw1 hl1 hT
        have hl1b := hw1.2.2.2.2
        refine g_iload C dX6_addAll_22 0 rfl ?_
        refine g_aload_n C dX6_addAll_24 2 rfl rfl ?_
        refine g_get C 0 rfl rfl 13 (by decide) (fun _ h => (List.mem_cons_of_mem _ (List.mem_append_right _ h))) 2 rfl rfl rfl dX6_addAll_25 ?_
        refine g_iload_n C dX6_addAll_28 1 rfl rfl ?_
        refine g_iconst C dX6_addAll_29 (v := (nI 1)) (by decide) ?_
        refine g_iadd C dX6_addAll_30 (v := (nI ((cv - p2 op) + 1))) (nI_add _ _) ?_
        refine g_iald C (v := (nI (st ((cv - p2 op) + 1)))) 9 rfl (by omega) (by omega) (hs.2.1 _ (by omega)) dX6_addAll_31 ?_
        refine g_icmp_geN C dX6_addAll_32 (tgt := 62) (by decide) (by omega) (by omega) (fun h32 => ?_) (fun h32 => ?_)
        · skip
          have hE : es1 = (if 4 ≤ op then twoA op cv st (cv - p2 op) ((cv - p2 op) + 1) 0 es else oneN op cv (st ((cv - p2 op) + 1) - st (cv - p2 op)) (st (cv - p2 op)) es) := by rw [if_neg (by omega), ← hT, show st ((cv - p2 op) + 1) - i = 0 by omega]; rfl
          refine hR _ _ _ _ _ dX6_addAll_62 ?_ (by omega) (by omega)
          rw [← hE]
          exact ⟨_, _, _, _, _, _, _, hw1, rfl⟩
        · skip
          refine g_aload_n C dX6_addAll_35 2 rfl rfl ?_
          refine g_iload_n C dX6_addAll_36 4 rfl rfl ?_
          refine g_aload_n C dX6_addAll_37 2 rfl rfl ?_
          refine g_get C 0 rfl rfl 6 (by decide) (fun _ h => (List.mem_cons_of_mem _ (List.mem_append_right _ h))) 3 rfl rfl rfl dX6_addAll_38 ?_
          refine g_iload C dX6_addAll_41 0 rfl ?_
          refine g_lald C (v := (eF es1 i)) 2 rfl (by omega) (by omega) (hw1.1 i (by omega)).1 dX6_addAll_43 ?_
          refine g_lconst C dX6_addAll_44 (v := 0) (by decide) ?_
          refine g_callPS C ⟨g_X0_ok, trivial⟩ (t_X6_made l D ty op (by omega) (eF es1 i) 0) rfl gX6_addAll_X6_made 3 (by decide +kernel) rfl ⟨rfl, rfl⟩ ⟨Nat.le_of_ble_eq_true rfl, Nat.le_of_ble_eq_true rfl⟩ (rest := [.ref n0]) [] rfl (Nat.le_of_ble_eq_true rfl) dX6_addAll_45 ⟨Nat.le_of_ble_eq_true rfl, Nat.le_of_ble_eq_true rfl⟩ rfl (g_kl (fun r hr => ?_))
          subst hr
          rw [md_ma (by omega)]
          refine g_iload_n C dX6_addAll_48 3 rfl rfl ?_
          refine g_iload_n C dX6_addAll_49 4 rfl rfl ?_
          refine g_iload C dX6_addAll_50 0 rfl ?_
          refine g_iconst C dX6_addAll_52 (v := (-1)) (by decide) ?_
          refine g_callUV C ⟨g_X0_ok, trivial⟩ (t_X6_add l D ty n0 np na nc nf nq no nx ny nl nh nb nw nt th cp pl tl av wr rs es1 fM1 qM1 oM1 aM1 bM1 lM1 hM1 hw1 (maF op (eF es1 i) 0) cv (nI op) (nI i) (-1)) rfl gX6_addAll_X6_add 5 (by decide +kernel) rfl ⟨rfl, rfl⟩ ⟨Nat.le_of_ble_eq_true rfl, Nat.le_of_ble_eq_true rfl⟩ (rest := []) (q0 := 0) rfl rfl hA [0, 2, 3, 4, 5, 6, 7, 8] [1, 9] rfl rfl rfl (wr := [(np, .inl (ty.1, 10, .inl (zN p2))), (nb, .inl (ty.1, 8, .inl gM))]) rfl rfl rfl (Nat.le_of_ble_eq_true rfl) dX6_addAll_53 ⟨Nat.le_of_ble_eq_true rfl, Nat.le_of_ble_eq_true rfl⟩ rfl (g_kuv (fun w hr => ?_))
          obtain ⟨fM53, qM53, oM53, aM53, bM53, lM53, hM53, hw53, rfl⟩ := hr
          have hl53 := addE_len (f := (maF op (eF es1 i) 0)) (c := cv) (o := (nI op)) (a := (nI i)) (b := (-1)) hw1.2.2.2.2
          refine g_ws (ws' := [(n0, .inr (5, [.int th, .ref np, .ref na, .int cp, .ref nc, .int (nI ((addE (maF op (eF es1 i) 0) cv (nI op) (nI i) (-1) es1).length)), .ref nf, .ref nq, .ref no, .ref nx, .ref ny, .ref nl, .ref nh, .ref nb, .ref nw, .int pl, .ref nt, .int tl, .int av, .int wr, .long rs])), (np, .inl (ty.1, 10, .inl (zN p2))), (nf, .inl (ty.2.1, 2000, .inr (.inl fM53))), (nq, .inl (ty.1, 2000, .inl qM53)), (no, .inl (ty.1, 2000, .inl oM53)), (nx, .inl (ty.1, 2000, .inl aM53)), (ny, .inl (ty.1, 2000, .inl bM53)), (nl, .inl (ty.1, 1024, .inl lM53)), (nh, .inl (ty.1, 2000, .inl hM53)), (nb, .inl (ty.1, 8, .inl gM))]) [2, 0, 3, 4, 5, 6, 7, 8, 9, 1] rfl rfl rfl ?_
          refine g_iinc C dX6_addAll_56 0 rfl (v := (nI (i + 1))) (nI_1 i) (by decide) (lv' := [(4, .int (nI (i + 1))), (3, .int (nI (cv - p2 op))), (0, .ref n0), (1, .int (nI cv)), (2, .int (nI op))]) rfl ?_
          refine g_goto C dX6_addAll_59 (tgt := 22) (by decide) ?_
          exact ih22 (i + 1) (addE (maF op (eF es1 i) 0) cv (nI op) (nI i) (-1) es1) fM53 qM53 oM53 aM53 bM53 lM53 hM53 (by omega) (by omega) hw53 (by omega) (by rw [show st ((cv - p2 op) + 1) - i = (st ((cv - p2 op) + 1) - (i + 1)) + 1 by omega] at hT; exact hT)
    exact L22 _ (st (cv - p2 op)) es fM qM oM aM bM lM hM (Nat.lt_succ_self _) hmn hw (Nat.le_refl _) rfl


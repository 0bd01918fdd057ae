abbrev rm_t_X6_parts : Room := ({ frames := 2, cells := 1, slots := 2016, locals := 43 } : Room)
set_option maxHeartbeats 4000000 in
set_option maxRecDepth 100000 in
theorem t_X6_parts (l : Launch) (D : va_G) (ty : g_T3) (n0 np na nc nf nq no nx ny nl nh nb nw nt : Nat) (th cp pl tl av wr : Int32) (rs : Int64) (es : List Ent) (fM : Nat → Int64) (qM oM aM bM lM hM : Nat → Int32) (hw : modOk es fM qM oM aM bM lM hM) (hwf : wfE es) (ev : Int32) : g_U l yX6_parts wsX6_parts rm_t_X6_parts D ty g_X0 [.ref n0, .int ev] [(n0, .inr (5, [.int th, .ref np, .ref na, .int cp, .ref nc, .int (nI es.length), .ref nf, .ref nq, .ref no, .ref nx, .ref ny, .ref nl, .ref nh, .ref nb, .ref nw, .int pl, .ref nt, .int tl, .int av, .int wr, .long rs])), (no, .inl (ty.1, 2000, .inl oM)), (nx, .inl (ty.1, 2000, .inl aM)), (ny, .inl (ty.1, 2000, .inl bM))] 1 2016 (g_ui (fun r w => (∃ k n, k < es.length ∧ ev = nI k ∧ r = nI n ∧ prt es k n ∧ w = [(n0, .inr (5, [.int (nI 0), .ref np, .ref na, .int cp, .ref nc, .int (nI es.length), .ref nf, .ref nq, .ref no, .ref nx, .ref ny, .ref nl, .ref nh, .ref nb, .ref nw, .int pl, .ref nt, .int tl, .int av, .int wr, .long rs])), (no, .inl (ty.1, 2000, .inl oM)), (nx, .inl (ty.1, 2000, .inl aM)), (ny, .inl (ty.1, 2000, .inl bM))]) ∨ ((ev.toInt < 0 ∨ (es.length : Int) ≤ ev.toInt) ∧ r = nI 0 ∧ w = [(n0, .inr (5, [.int (nI 1), .ref np, .ref na, .int cp, .ref nc, .int (nI es.length), .ref nf, .ref nq, .ref no, .ref nx, .ref ny, .ref nl, .ref nh, .ref nb, .ref nw, .int pl, .ref nt, .int tl, .int av, .int wr, .long rs])), (no, .inl (ty.1, 2000, .inl oM)), (nx, .inl (ty.1, 2000, .inl aM)), (ny, .inl (ty.1, 2000, .inl bM))]))) := by
  refine g_ofUi (cc := cX6_parts) (nL := 5) (own := RX6) (by decide) rfl rfl g_X0_ok (Nat.le_of_ble_eq_true rfl) ?_
  intro p e s m args below meth c Q A C hA hX hin hR
  refine g_lv (lv' := [(0, .ref n0), (1, .int ev)]) [0, 1] rfl ?_
  have hl0 := hw.2.2.2.2
  refine g_aload_n C dX6_parts_0 0 rfl rfl ?_
  refine g_iconst C dX6_parts_1 (v := (nI 0)) (by decide) ?_
  refine g_put C 0 rfl rfl 0 (by decide) (fun _ h => (List.mem_cons_of_mem _ (List.mem_append_right _ h))) 1 rfl rfl tyX6 tyX6_ok nmX6 rfl rfl rfl rfl (Nat.le_of_ble_eq_true rfl) (ws' := [(n0, .inr (5, [.int (nI 0), .ref np, .ref na, .int cp, .ref nc, .int (nI es.length), .ref nf, .ref nq, .ref no, .ref nx, .ref ny, .ref nl, .ref nh, .ref nb, .ref nw, .int pl, .ref nt, .int tl, .int av, .int wr, .long rs])), (no, .inl (ty.1, 2000, .inl oM)), (nx, .inl (ty.1, 2000, .inl aM)), (ny, .inl (ty.1, 2000, .inl bM))]) rfl dX6_parts_2 ?_
  refine g_aload_n C dX6_parts_5 0 rfl rfl ?_
  refine g_iload_n C dX6_parts_6 1 rfl rfl ?_
  refine g_callPV C ⟨g_X0_ok, trivial⟩ (t_X6_isEntry l D ty n0 np na nc nf nq no nx ny nl nh nb nw nt (nI 0) cp pl tl av wr rs es hl0 ev) rfl gX6_parts_X6_isEntry 1 (by decide +kernel) rfl ⟨rfl, rfl⟩ ⟨Nat.le_of_ble_eq_true rfl, Nat.le_of_ble_eq_true rfl⟩ (rest := []) (q0 := 0) rfl rfl [0] rfl (Nat.le_of_ble_eq_true rfl) dX6_parts_7 ⟨Nat.le_of_ble_eq_true rfl, Nat.le_of_ble_eq_true rfl⟩ rfl (g_ki (fun r hr => ?_))
  subst hr
  have := bt_lt (hsB ev es.length)
  refine g_if_neN C dX6_parts_10 (tgt := 19) (by decide) (by omega) (fun h10 => ?_) (fun h10 => ?_)
  · skip
    obtain ⟨k, hk, rfl⟩ := hs_1 h10
    refine g_iload_n C dX6_parts_19 1 rfl rfl ?_
    refine g_iconst C dX6_parts_20 (v := (nI 1)) (by decide) ?_
    refine g_iadd C dX6_parts_21 (v := (nI (k + 1))) (nI_add _ _) ?_
    refine g_newaZ C hA (n := k + 1) (f := (zB (fun _ => false))) 2 rfl (fun _ => nI_0) (by omega) (Nat.le_of_ble_eq_true rfl) (by show _ ≤ 2016; omega) dX6_parts_22 (fun q22 => ?_)
    refine g_astore_n C dX6_parts_24 rfl (by decide) (lv' := [(2, .ref q22), (0, .ref n0), (1, .int (nI k))]) rfl ?_
    refine g_aload_n C dX6_parts_25 0 rfl rfl ?_
    refine g_iload_n C dX6_parts_26 2 rfl rfl ?_
    refine g_iconst C dX6_parts_27 (v := (nI 1)) (by decide) ?_
    refine g_zast C 4 rfl (by omega) (by omega) (f' := zB (va_up (fun _ => false) k true)) (zB_upd (fun _ => false) k true) (ws' := [(n0, .inr (5, [.int (nI 0), .ref np, .ref na, .int cp, .ref nc, .int (nI es.length), .ref nf, .ref nq, .ref no, .ref nx, .ref ny, .ref nl, .ref nh, .ref nb, .ref nw, .int pl, .ref nt, .int tl, .int av, .int wr, .long rs])), (no, .inl (ty.1, 2000, .inl oM)), (nx, .inl (ty.1, 2000, .inl aM)), (ny, .inl (ty.1, 2000, .inl bM)), (q22, .inl (ty.2.2, k + 1, .inl (zB (va_up (fun _ => false) k true))))]) rfl dX6_parts_28 ?_
    refine g_iconst C dX6_parts_29 (v := (nI 0)) (by decide) ?_
    refine g_istore_n C dX6_parts_30 rfl (by decide) (lv' := [(3, .int (nI 0)), (2, .ref q22), (0, .ref n0), (1, .int (nI k))]) rfl ?_
    refine g_iload_n C dX6_parts_31 3 rfl rfl ?_
    refine g_istore C dX6_parts_32 (by decide) (lv' := [(4, .int (nI k)), (3, .int (nI 0)), (2, .ref q22), (0, .ref n0), (1, .int (nI k))]) rfl ?_
    have L34 : ∀ (n9 : Nat) (mq : Nat) (mk : Nat → Bool) (cq : Nat) (e4 : Int32), mq < n9 → (mkOk es k mq mk cq) → (e4 = nI mq - nI 1) → gG (g_IU A D s) p l e rm_t_X6_parts s m args below meth c Q 5 (0 + 1) (0 + (k + 1)) 34 [(4, .int e4), (3, .int (nI cq)), (2, .ref q22), (0, .ref n0), (1, .int (nI k))] [] [(n0, .inr (5, [.int (nI 0), .ref np, .ref na, .int cp, .ref nc, .int (nI es.length), .ref nf, .ref nq, .ref no, .ref nx, .ref ny, .ref nl, .ref nh, .ref nb, .ref nw, .int pl, .ref nt, .int tl, .int av, .int wr, .long rs])), (no, .inl (ty.1, 2000, .inl oM)), (nx, .inl (ty.1, 2000, .inl aM)), (ny, .inl (ty.1, 2000, .inl bM)), (q22, .inl (ty.2.2, k + 1, .inl (zB mk)))] := by
      intro n9
      induction n9 with
      | zero => intro mq mk cq e4 hn; exact absurd hn (Nat.not_lt_zero _)
      | succ n9 ih34 =>
        intro mq mk cq e4 hn34 hmk he4
        subst he4
        refine g_iload C dX6_parts_34 0 rfl ?_
        have hm1 := hmk.1
        refine g_if_lt C dX6_parts_36 (tgt := 102) (by decide) (fun h36 => ?_) (fun h36 => ?_)
        · skip
          rw [m1_int (by omega)] at h36
          obtain rfl : mq = 0 := by omega
          refine g_iload_n C dX6_parts_102 1 rfl rfl ?_
          refine g_ws [0, 1, 2, 3] rfl rfl rfl ?_
          refine hR _ _ _ _ _ _ dX6_parts_103 ?_ (by omega) (by omega)
          exact Or.inl ⟨k, cq, hk, rfl, rfl, mk_end hwf hl0 hk hmk, rfl⟩
        · skip
          rw [m1_int (by omega)] at h36
          rw [pk_sub (show 1 ≤ mq by omega)]
          have hbt := bt_lt (mk (mq - 1))
          refine g_aload_n C dX6_parts_39 2 rfl rfl ?_
          refine g_iload C dX6_parts_40 0 rfl ?_
          refine g_zald C (v := (nI ((mk (mq - 1)).toNat))) 4 rfl (by omega) (by omega) rfl dX6_parts_42 ?_
          refine g_if_neN C dX6_parts_43 (tgt := 49) (by decide) (by omega) (fun h43 => ?_) (fun h43 => ?_)
          · skip
            have hmt := b_t h43
            refine g_iinc C dX6_parts_49 1 rfl (v := (nI (cq + 1))) (nI_1 cq) (by decide) (lv' := [(3, .int (nI (cq + 1))), (4, .int (nI (mq - 1))), (2, .ref q22), (0, .ref n0), (1, .int (nI k))]) rfl ?_
            refine g_aload_n C dX6_parts_52 3 rfl rfl ?_
            refine g_get C 0 rfl rfl 8 (by decide) (fun _ h => (List.mem_cons_of_mem _ (List.mem_append_right _ h))) 3 rfl rfl rfl dX6_parts_53 ?_
            refine g_iload C dX6_parts_56 1 rfl ?_
            refine g_iald C (v := (eO es (mq - 1))) 1 rfl (by omega) (by omega) (hw.1 _ (by omega)).2.1 dX6_parts_58 ?_
            refine g_if_ge C dX6_parts_59 (tgt := 65) (by decide) (fun h59 => ?_) (fun h59 => ?_)
            · skip
              obtain ⟨⟨a9, hca, hea⟩, hpb⟩ := wf_par hwf hl0 (by omega) h59
              have hla := chd_lt hwf hl0 (by omega) hca
              refine g_aload_n C dX6_parts_65 2 rfl rfl ?_
              refine g_aload_n C dX6_parts_66 3 rfl rfl ?_
              refine g_get C 0 rfl rfl 9 (by decide) (fun _ h => (List.mem_cons_of_mem _ (List.mem_append_right _ h))) 4 rfl rfl rfl dX6_parts_67 ?_
              refine g_iload C dX6_parts_70 1 rfl ?_
              refine g_iald C (v := (nI a9)) 2 rfl (by omega) (by omega) ((hw.1 _ (by omega)).2.2.1.trans hea) dX6_parts_72 ?_
              refine g_iconst C dX6_parts_73 (v := (nI 1)) (by decide) ?_
              refine g_zast C 4 rfl (by omega) (by omega) (f' := zB (va_up mk a9 true)) (zB_upd mk a9 true) (ws' := [(n0, .inr (5, [.int (nI 0), .ref np, .ref na, .int cp, .ref nc, .int (nI es.length), .ref nf, .ref nq, .ref no, .ref nx, .ref ny, .ref nl, .ref nh, .ref nb, .ref nw, .int pl, .ref nt, .int tl, .int av, .int wr, .long rs])), (no, .inl (ty.1, 2000, .inl oM)), (nx, .inl (ty.1, 2000, .inl aM)), (ny, .inl (ty.1, 2000, .inl bM)), (q22, .inl (ty.2.2, k + 1, .inl (zB (va_up mk a9 true))))]) rfl dX6_parts_74 ?_
              refine g_aload_n C dX6_parts_75 3 rfl rfl ?_
              refine g_get C 0 rfl rfl 10 (by decide) (fun _ h => (List.mem_cons_of_mem _ (List.mem_append_right _ h))) 5 rfl rfl rfl dX6_parts_76 ?_
              refine g_iload C dX6_parts_79 1 rfl ?_
              refine g_iald C (v := (eB es (mq - 1))) 3 rfl (by omega) (by omega) (hw.1 _ (by omega)).2.2.2 dX6_parts_81 ?_
              refine g_iconst C dX6_parts_82 (v := (-1)) (by decide) ?_
              refine g_icmp_eq C dX6_parts_83 (tgt := 96) (by decide) (fun h83 => ?_) (fun h83 => ?_)
              · skip
                have heb := t_eq.mpr h83
                refine g_iinc C dX6_parts_96 1 rfl (v := (nI (mq - 1) - nI 1)) (dec1 _) (by decide) (lv' := [(4, .int (nI (mq - 1) - nI 1)), (3, .int (nI (cq + 1))), (2, .ref q22), (0, .ref n0), (1, .int (nI k))]) rfl ?_
                refine g_goto C dX6_parts_99 (tgt := 34) (by decide) ?_
                exact ih34 (mq - 1) (va_up mk a9 true) (cq + 1) _ (by omega) (mk_1 hwf hl0 hk hmk (by omega) hmt hca hea heb) rfl
              · skip
                obtain ⟨b9, hcb, heb⟩ := hpb.resolve_left (fun z => h83 (t_eq.mp z))
                have hlb := chd_lt hwf hl0 (by omega) hcb
                refine g_aload_n C dX6_parts_86 2 rfl rfl ?_
                refine g_aload_n C dX6_parts_87 3 rfl rfl ?_
                refine g_get C 0 rfl rfl 10 (by decide) (fun _ h => (List.mem_cons_of_mem _ (List.mem_append_right _ h))) 5 rfl rfl rfl dX6_parts_88 ?_
                refine g_iload C dX6_parts_91 1 rfl ?_
                refine g_iald C (v := (nI b9)) 3 rfl (by omega) (by omega) ((hw.1 _ (by omega)).2.2.2.trans heb) dX6_parts_93 ?_
                refine g_iconst C dX6_parts_94 (v := (nI 1)) (by decide) ?_
                refine g_zast C 4 rfl (by omega) (by omega) (f' := zB (va_up (va_up mk a9 true) b9 true)) (zB_upd (va_up mk a9 true) b9 true) (ws' := [(n0, .inr (5, [.int (nI 0), .ref np, .ref na, .int cp, .ref nc, .int (nI es.length), .ref nf, .ref nq, .ref no, .ref nx, .ref ny, .ref nl, .ref nh, .ref nb, .ref nw, .int pl, .ref nt, .int tl, .int av, .int wr, .long rs])), (no, .inl (ty.1, 2000, .inl oM)), (nx, .inl (ty.1, 2000, .inl aM)), (ny, .inl (ty.1, 2000, .inl bM)), (q22, .inl (ty.2.2, k + 1, .inl (zB (va_up (va_up mk a9 true) b9 true))))]) rfl dX6_parts_95 ?_
                refine g_iinc C dX6_parts_96 1 rfl (v := (nI (mq - 1) - nI 1)) (dec1 _) (by decide) (lv' := [(4, .int (nI (mq - 1) - nI 1)), (3, .int (nI (cq + 1))), (2, .ref q22), (0, .ref n0), (1, .int (nI k))]) rfl ?_
                refine g_goto C dX6_parts_99 (tgt := 34) (by decide) ?_
                exact ih34 (mq - 1) (va_up (va_up mk a9 true) b9 true) (cq + 1) _ (by omega) (mk_2 hwf hl0 hk hmk (by omega) hmt hca hea hcb heb) rfl
            · skip
              refine g_goto C dX6_parts_62 (tgt := 96) (by decide) ?_
              refine g_iinc C dX6_parts_96 1 rfl (v := (nI (mq - 1) - nI 1)) (dec1 _) (by decide) (lv' := [(4, .int (nI (mq - 1) - nI 1)), (3, .int (nI (cq + 1))), (2, .ref q22), (0, .ref n0), (1, .int (nI k))]) rfl ?_
              refine g_goto C dX6_parts_99 (tgt := 34) (by decide) ?_
              exact ih34 (mq - 1) mk (cq + 1) _ (by omega) (mk_no hmk (by omega) hmt h59) rfl
          · skip
            have hmz := b_f h43
            refine g_goto C dX6_parts_46 (tgt := 96) (by decide) ?_
            refine g_iinc C dX6_parts_96 0 rfl (v := (nI (mq - 1) - nI 1)) (dec1 _) (by decide) (lv' := [(4, .int (nI (mq - 1) - nI 1)), (3, .int (nI cq)), (2, .ref q22), (0, .ref n0), (1, .int (nI k))]) rfl ?_
            refine g_goto C dX6_parts_99 (tgt := 34) (by decide) ?_
            exact ih34 (mq - 1) mk cq _ (by omega) (mk_skip hmk (by omega) hmz) rfl
    exact L34 _ (k + 1) (va_up (fun _ => false) k true) 0 (nI k) (Nat.lt_succ_self _) mk_ini (pk_sub (show 1 ≤ k + 1 by omega)).symm
  · skip
    have hno := hs_0 h10
    refine g_aload_n C dX6_parts_13 0 rfl rfl ?_
    refine g_iconst C dX6_parts_14 (v := (nI 1)) (by decide) ?_
    refine g_callUV C ⟨g_X0_ok, trivial⟩ (t_X6_no l D ty n0 np na nc nf nq no nx ny nl nh nb nw nt (nI 0) cp pl tl av wr rs (nI es.length) (nI 1)) rfl gX6_parts_X6_no 1 (by decide +kernel) rfl ⟨rfl, rfl⟩ ⟨Nat.le_of_ble_eq_true rfl, Nat.le_of_ble_eq_true rfl⟩ (rest := []) (q0 := 0) rfl rfl hA [0] [1, 2, 3] rfl rfl rfl (wr := [(no, .inl (ty.1, 2000, .inl oM)), (nx, .inl (ty.1, 2000, .inl aM)), (ny, .inl (ty.1, 2000, .inl bM))]) rfl rfl rfl (Nat.le_of_ble_eq_true rfl) dX6_parts_15 ⟨Nat.le_of_ble_eq_true rfl, Nat.le_of_ble_eq_true rfl⟩ rfl (g_kui (fun r w hr => ?_))
    obtain ⟨rfl, rfl⟩ := hr
    refine g_ws (ws' := [(n0, .inr (5, [.int (nI 1), .ref np, .ref na, .int cp, .ref nc, .int (nI es.length), .ref nf, .ref nq, .ref no, .ref nx, .ref ny, .ref nl, .ref nh, .ref nb, .ref nw, .int pl, .ref nt, .int tl, .int av, .int wr, .long rs])), (no, .inl (ty.1, 2000, .inl oM)), (nx, .inl (ty.1, 2000, .inl aM)), (ny, .inl (ty.1, 2000, .inl bM))]) [3, 0, 1, 2] rfl rfl rfl ?_
    refine hR _ _ _ _ _ _ dX6_parts_18 ?_ (by omega) (by omega)
    exact Or.inr ⟨hno, rfl, rfl⟩

abbrev rm_t_X6_meanCost : Room := ({ frames := 0, cells := 0, slots := 0, locals := 0 } : Room)
set_option maxHeartbeats 4000000 in
set_option maxRecDepth 100000 in
theorem t_X6_meanCost (l : Launch) (D : va_G) (ty : g_T3) (n0 np na nc nf nq no nx ny nl nh nb nw nt : Nat) (th cp pl tl av wr : Int32) (rs : Int64) (es : List Ent) (fM : Nat → Int64) (qM oM aM bM lM hM : Nat → Int32) (hw : modOk es fM qM oM aM bM lM hM) (hwf : wfE es) : g_U l yX6_meanCost wsX6_meanCost rm_t_X6_meanCost D ty g_X0 [.ref n0] [(n0, .inr (5, [.int th, .ref np, .ref na, .int cp, .ref nc, .int (nI es.length), .ref nf, .ref nq, .ref no, .ref nx, .ref ny, .ref nl, .ref nh, .ref nb, .ref nw, .int pl, .ref nt, .int tl, .int av, .int wr, .long rs])), (nq, .inl (ty.1, 2000, .inl qM))] 0 0 (g_ud (fun r w => r = mnD (scT es es.length) es.length ∧ w = [(n0, .inr (5, [.int (nI 0), .ref np, .ref na, .int cp, .ref nc, .int (nI es.length), .ref nf, .ref nq, .ref no, .ref nx, .ref ny, .ref nl, .ref nh, .ref nb, .ref nw, .int pl, .ref nt, .int tl, .int av, .int wr, .long rs])), (nq, .inl (ty.1, 2000, .inl qM))])) := by
  refine g_ofUd (cc := cX6_meanCost) (nL := 3) (own := RX6) (by decide) rfl rfl g_X0_ok (Nat.le_of_ble_eq_true rfl) ?_
  intro p e s m args below meth c Q A C hA hX hin hR
  refine g_lv (lv' := [(0, .ref n0)]) [0] rfl ?_
  have hl0 := hw.2.2.2.2
  refine g_aload_n C dX6_meanCost_0 0 rfl rfl ?_
  refine g_iconst C dX6_meanCost_1 (v := (nI 0)) (by decide) ?_
  refine g_put C 0 rfl rfl 0 (by decide) (fun _ h => (List.mem_cons_of_mem _ (List.mem_append_right _ h))) 1 rfl rfl tyX6 tyX6_ok nmX6 rfl rfl rfl rfl (Nat.le_of_ble_eq_true rfl) (ws' := [(n0, .inr (5, [.int (nI 0), .ref np, .ref na, .int cp, .ref nc, .int (nI es.length), .ref nf, .ref nq, .ref no, .ref nx, .ref ny, .ref nl, .ref nh, .ref nb, .ref nw, .int pl, .ref nt, .int tl, .int av, .int wr, .long rs])), (nq, .inl (ty.1, 2000, .inl qM))]) rfl dX6_meanCost_2 ?_
  refine g_iconst C dX6_meanCost_5 (v := (nI 0)) (by decide) ?_
  refine g_istore_n C dX6_meanCost_6 rfl (by decide) (lv' := [(1, .int (nI 0)), (0, .ref n0)]) rfl ?_
  refine g_iconst C dX6_meanCost_7 (v := (nI 0)) (by decide) ?_
  refine g_istore_n C dX6_meanCost_8 rfl (by decide) (lv' := [(2, .int (nI 0)), (1, .int (nI 0)), (0, .ref n0)]) rfl ?_
  have L9 : ∀ (n9 : Nat) (i : Nat), es.length - i < n9 → (i ≤ es.length) → gG (g_IU A D s) p l e rm_t_X6_meanCost s m args below meth c Q 3 0 0 9 [(2, .int (nI i)), (1, .int (nI (scT es i))), (0, .ref n0)] [] [(n0, .inr (5, [.int (nI 0), .ref np, .ref na, .int cp, .ref nc, .int (nI es.length), .ref nf, .ref nq, .ref no, .ref nx, .ref ny, .ref nl, .ref nh, .ref nb, .ref nw, .int pl, .ref nt, .int tl, .int av, .int wr, .long rs])), (nq, .inl (ty.1, 2000, .inl qM))] := by
    intro n9
    induction n9 with
    | zero => intro i hn; exact absurd hn (Nat.not_lt_zero _)
    | succ n9 ih9 =>
      intro i hn9 hi
      refine g_iload_n C dX6_meanCost_9 0 rfl rfl ?_
      refine g_aload_n C dX6_meanCost_10 2 rfl rfl ?_
      refine g_get C 0 rfl rfl 5 (by decide) (fun _ h => (List.mem_cons_of_mem _ (List.mem_append_right _ h))) 2 rfl rfl rfl dX6_meanCost_11 ?_
      refine g_icmp_geN C dX6_meanCost_14 (tgt := 32) (by decide) (by omega) (by omega) (fun h14 => ?_) (fun h14 => ?_)
      · skip
        have hie : i = es.length := by omega
        have L32 : ∀ (n9 : Nat) , 0 < n9 → gG (g_IU A D s) p l e rm_t_X6_meanCost s m args below meth c Q 3 0 0 32 [(1, .int (nI (scT es es.length))), (0, .ref n0)] [] [(n0, .inr (5, [.int (nI 0), .ref np, .ref na, .int cp, .ref nc, .int (nI es.length), .ref nf, .ref nq, .ref no, .ref nx, .ref ny, .ref nl, .ref nh, .ref nb, .ref nw, .int pl, .ref nt, .int tl, .int av, .int wr, .long rs])), (nq, .inl (ty.1, 2000, .inl qM))] := by
          intro n9
          induction n9 with
          | zero => intro  hn; exact absurd hn (Nat.not_lt_zero _)
          | succ n9 ih32 =>
            intro  hn32 
            refine g_aload_n C dX6_meanCost_32 1 rfl rfl ?_
            refine g_get C 0 rfl rfl 5 (by decide) (fun _ h => (List.mem_cons_of_mem _ (List.mem_append_right _ h))) 2 rfl rfl rfl dX6_meanCost_33 ?_
            have hsc := scT_le hwf es.length (Nat.le_refl _)
            refine g_if_neN C dX6_meanCost_36 (tgt := 43) (by decide) (by omega) (fun h36 => ?_) (fun h36 => ?_)
            · skip
              have hne : ¬ es.length = 0 := by omega
              refine g_iload_n C dX6_meanCost_43 0 rfl rfl ?_
              refine g_i2d C dX6_meanCost_44 ?_
              refine g_aload_n C dX6_meanCost_45 1 rfl rfl ?_
              refine g_get C 0 rfl rfl 5 (by decide) (fun _ h => (List.mem_cons_of_mem _ (List.mem_append_right _ h))) 2 rfl rfl rfl dX6_meanCost_46 ?_
              refine g_i2d C dX6_meanCost_49 ?_
              refine g_ddiv C dX6_meanCost_50 (mn_ok (by omega) (by omega) hne) ?_
              refine hR _ _ _ _ _ _ dX6_meanCost_51 ?_ (by omega) (by omega)
              first | exact ⟨(if_neg hne).symm, rfl⟩ | exact ⟨(if_pos hz).symm, rfl⟩
            · skip
              have hz : es.length = 0 := by omega
              refine g_dconst0 C dX6_meanCost_39 ?_
              refine g_goto C dX6_meanCost_40 (tgt := 51) (by decide) ?_
              refine hR _ _ _ _ _ _ dX6_meanCost_51 ?_ (by omega) (by omega)
              first | exact ⟨(if_neg hne).symm, rfl⟩ | exact ⟨(if_pos hz).symm, rfl⟩
        refine g_lv [1, 2] rfl ?_
        (rw [hie]; exact L32 _  (Nat.lt_succ_self _)) 
      · skip
        refine g_iload_n C dX6_meanCost_17 1 rfl rfl ?_
        refine g_aload_n C dX6_meanCost_18 2 rfl rfl ?_
        refine g_get C 0 rfl rfl 7 (by decide) (fun _ h => (List.mem_cons_of_mem _ (List.mem_append_right _ h))) 3 rfl rfl rfl dX6_meanCost_19 ?_
        refine g_iload_n C dX6_meanCost_22 0 rfl rfl ?_
        refine g_iald C (v := (nI (eC es i))) 1 rfl (by omega) (by omega) (hw.2.1 i (by omega)) dX6_meanCost_23 ?_
        refine g_iadd C dX6_meanCost_24 (v := (nI (scT es (i + 1)))) (nI_add _ _) ?_
        refine g_istore_n C dX6_meanCost_25 rfl (by decide) (lv' := [(1, .int (nI (scT es (i + 1)))), (2, .int (nI i)), (0, .ref n0)]) rfl ?_
        refine g_iinc C dX6_meanCost_26 1 rfl (v := (nI (i + 1))) (nI_1 i) (by decide) (lv' := [(2, .int (nI (i + 1))), (1, .int (nI (scT es (i + 1)))), (0, .ref n0)]) rfl ?_
        refine g_goto C dX6_meanCost_29 (tgt := 9) (by decide) ?_
        exact ih9 (i + 1) (by omega) (by omega)
  exact L9 _ 0 (Nat.lt_succ_self _) (by omega)

abbrev rm_t_X6_write : Room := ({ frames := 32, cells := 0, slots := 0, locals := 922 } : Room)
set_option maxHeartbeats 4000000 in
set_option maxRecDepth 100000 in
theorem t_X6_write (l : Launch) (D : va_G) (ty : g_T3) (n0 np na nc nf nq no nx ny nl nh nb nw nt : Nat) (th cp pl tl av wr : Int32) (rs : Int64) (es : List Ent) (fM : Nat → Int64) (qM oM aM bM lM hM : Nat → Int32) (hw : modOk es fM qM oM aM bM lM hM) (hwf : wfE es) (pb : Nat → Nat) (nv : Nat) (ev : Int32) : g_U l yX6_write wsX6_write rm_t_X6_write D ty g_XN [.ref n0, .int ev] [(n0, .inr (5, [.int th, .ref np, .ref na, .int cp, .ref nc, .int (nI es.length), .ref nf, .ref nq, .ref no, .ref nx, .ref ny, .ref nl, .ref nh, .ref nb, .ref nw, .int (nI nv), .ref nt, .int tl, .int av, .int wr, .long rs])), (no, .inl (ty.1, 2000, .inl oM)), (nx, .inl (ty.1, 2000, .inl aM)), (ny, .inl (ty.1, 2000, .inl bM)), (nw, .inl (ty.1, 400, .inl (zN pb)))] 0 0 (g_ui (fun r w => (∃ k, k < es.length ∧ ev = nI k ∧ r = nI (fmE es 7 k).length ∧ w = [(n0, .inr (5, [.int (nI 0), .ref np, .ref na, .int cp, .ref nc, .int (nI es.length), .ref nf, .ref nq, .ref no, .ref nx, .ref ny, .ref nl, .ref nh, .ref nb, .ref nw, .int (nI ((fmE es 7 k).length)), .ref nt, .int tl, .int av, .int wr, .long rs])), (no, .inl (ty.1, 2000, .inl oM)), (nx, .inl (ty.1, 2000, .inl aM)), (ny, .inl (ty.1, 2000, .inl bM)), (nw, .inl (ty.1, 400, .inl (zN (apL pb 0 (fmE es 7 k)))))]) ∨ ((ev.toInt < 0 ∨ (es.length : Int) ≤ ev.toInt) ∧ r = nI 0 ∧ w = [(n0, .inr (5, [.int (nI 1), .ref np, .ref na, .int cp, .ref nc, .int (nI es.length), .ref nf, .ref nq, .ref no, .ref nx, .ref ny, .ref nl, .ref nh, .ref nb, .ref nw, .int (nI nv), .ref nt, .int tl, .int av, .int wr, .long rs])), (no, .inl (ty.1, 2000, .inl oM)), (nx, .inl (ty.1, 2000, .inl aM)), (ny, .inl (ty.1, 2000, .inl bM)), (nw, .inl (ty.1, 400, .inl (zN pb)))]))) := by
  refine g_ofUi (cc := cX6_write) (nL := 2) (own := RX6) (by decide) rfl rfl g_XN_ok (Nat.le_of_ble_eq_true rfl) ?_
  intro p e s m args below meth c Q A C hA hX hin hR
  refine g_lv (lv' := [(0, .ref n0), (1, .int ev)]) [0, 1] rfl ?_
  have hl0 := hw.2.2.2.2
  refine g_aload_n C dX6_write_0 0 rfl rfl ?_
  refine g_iconst C dX6_write_1 (v := (nI 0)) (by decide) ?_
  refine g_put C 0 rfl rfl 0 (by decide) (fun _ h => (List.mem_cons_of_mem _ (List.mem_append_right _ h))) 1 rfl rfl tyX6 tyX6_ok nmX6 rfl rfl rfl rfl (Nat.le_of_ble_eq_true rfl) (ws' := [(n0, .inr (5, [.int (nI 0), .ref np, .ref na, .int cp, .ref nc, .int (nI es.length), .ref nf, .ref nq, .ref no, .ref nx, .ref ny, .ref nl, .ref nh, .ref nb, .ref nw, .int (nI nv), .ref nt, .int tl, .int av, .int wr, .long rs])), (no, .inl (ty.1, 2000, .inl oM)), (nx, .inl (ty.1, 2000, .inl aM)), (ny, .inl (ty.1, 2000, .inl bM)), (nw, .inl (ty.1, 400, .inl (zN pb)))]) rfl dX6_write_2 ?_
  refine g_aload_n C dX6_write_5 0 rfl rfl ?_
  refine g_iload_n C dX6_write_6 1 rfl rfl ?_
  refine g_callPV C ⟨g_X0_ok, trivial⟩ (t_X6_isEntry l D ty n0 np na nc nf nq no nx ny nl nh nb nw nt (nI 0) cp (nI nv) tl av wr rs es hl0 ev) rfl gX6_write_X6_isEntry 1 (by decide +kernel) rfl ⟨rfl, rfl⟩ ⟨Nat.le_of_ble_eq_true rfl, Nat.le_of_ble_eq_true rfl⟩ (rest := []) (q0 := 0) rfl rfl [0] rfl (Nat.le_of_ble_eq_true rfl) dX6_write_7 ⟨Nat.le_of_ble_eq_true rfl, Nat.le_of_ble_eq_true rfl⟩ rfl (g_ki (fun r hr => ?_))
  subst hr
  have := bt_lt (hsB ev es.length)
  refine g_if_neN C dX6_write_10 (tgt := 19) (by decide) (by omega) (fun h10 => ?_) (fun h10 => ?_)
  · skip
    obtain ⟨k, hk, rfl⟩ := hs_1 h10
    refine g_aload_n C dX6_write_19 0 rfl rfl ?_
    refine g_iconst C dX6_write_20 (v := (nI 0)) (by decide) ?_
    refine g_put C 0 rfl rfl 15 (by decide) (fun _ h => (List.mem_cons_of_mem _ (List.mem_append_right _ h))) 2 rfl rfl tyX6 tyX6_ok nmX6 rfl rfl rfl rfl (Nat.le_of_ble_eq_true rfl) (ws' := [(n0, .inr (5, [.int (nI 0), .ref np, .ref na, .int cp, .ref nc, .int (nI es.length), .ref nf, .ref nq, .ref no, .ref nx, .ref ny, .ref nl, .ref nh, .ref nb, .ref nw, .int (nI 0), .ref nt, .int tl, .int av, .int wr, .long rs])), (no, .inl (ty.1, 2000, .inl oM)), (nx, .inl (ty.1, 2000, .inl aM)), (ny, .inl (ty.1, 2000, .inl bM)), (nw, .inl (ty.1, 400, .inl (zN pb)))]) rfl dX6_write_21 ?_
    refine g_aload_n C dX6_write_24 0 rfl rfl ?_
    refine g_iload_n C dX6_write_25 1 rfl rfl ?_
    refine g_callUV C hX (t_X6_lev l D ty n0 np na nc nf nq no nx ny nl nh nb nw nt (nI 0) cp tl av wr rs es oM aM bM (fun i hi => (hw.1 i hi).2) hwf hl0 7 pb 0 k hk (by have := (hwf k hk).1; omega) (by have := fm_len30 (n := 7) hwf hl0 hk (by have := (hwf k hk).1; omega); omega)) rfl gX6_write_X6_putEntry 1 (by decide +kernel) rfl ⟨rfl, rfl⟩ ⟨Nat.le_of_ble_eq_true rfl, Nat.le_of_ble_eq_true rfl⟩ (rest := []) (q0 := 0) rfl rfl hA [0, 1, 2, 3, 4] [] rfl rfl rfl (wr := []) rfl rfl rfl (Nat.le_of_ble_eq_true rfl) dX6_write_26 ⟨Nat.le_of_ble_eq_true rfl, Nat.le_of_ble_eq_true rfl⟩ rfl (g_kuv (fun w hr => ?_))
    subst hr
    refine g_ws (ws' := [(n0, .inr (5, [.int (nI 0), .ref np, .ref na, .int cp, .ref nc, .int (nI es.length), .ref nf, .ref nq, .ref no, .ref nx, .ref ny, .ref nl, .ref nh, .ref nb, .ref nw, .int (nI (0 + (fmE es 7 k).length)), .ref nt, .int tl, .int av, .int wr, .long rs])), (no, .inl (ty.1, 2000, .inl oM)), (nx, .inl (ty.1, 2000, .inl aM)), (ny, .inl (ty.1, 2000, .inl bM)), (nw, .inl (ty.1, 400, .inl (zN (apL pb 0 (fmE es 7 k)))))]) [0, 1, 2, 3, 4] rfl rfl rfl ?_
    refine g_aload_n C dX6_write_29 0 rfl rfl ?_
    refine g_get C 0 rfl rfl 15 (by decide) (fun _ h => (List.mem_cons_of_mem _ (List.mem_append_right _ h))) 2 rfl rfl rfl dX6_write_30 ?_
    refine hR _ _ _ _ _ _ dX6_write_33 ?_ (by omega) (by omega)
    rw [Nat.zero_add]; exact Or.inl ⟨k, hk, rfl, rfl, rfl⟩
  · skip
    have hno := hs_0 h10
    refine g_aload_n C dX6_write_13 0 rfl rfl ?_
    refine g_iconst C dX6_write_14 (v := (nI 1)) (by decide) ?_
    refine g_callUV C ⟨g_X0_ok, trivial⟩ (t_X6_no l D ty n0 np na nc nf nq no nx ny nl nh nb nw nt (nI 0) cp (nI nv) tl av wr rs (nI es.length) (nI 1)) rfl gX6_write_X6_no 1 (by decide +kernel) rfl ⟨rfl, rfl⟩ ⟨Nat.le_of_ble_eq_true rfl, Nat.le_of_ble_eq_true rfl⟩ (rest := []) (q0 := 0) rfl rfl hA [0] [1, 2, 3, 4] rfl rfl rfl (wr := [(no, .inl (ty.1, 2000, .inl oM)), (nx, .inl (ty.1, 2000, .inl aM)), (ny, .inl (ty.1, 2000, .inl bM)), (nw, .inl (ty.1, 400, .inl (zN pb)))]) rfl rfl rfl (Nat.le_of_ble_eq_true rfl) dX6_write_15 ⟨Nat.le_of_ble_eq_true rfl, Nat.le_of_ble_eq_true rfl⟩ rfl (g_kui (fun r w hr => ?_))
    obtain ⟨rfl, rfl⟩ := hr
    refine g_ws (ws' := [(n0, .inr (5, [.int (nI 1), .ref np, .ref na, .int cp, .ref nc, .int (nI es.length), .ref nf, .ref nq, .ref no, .ref nx, .ref ny, .ref nl, .ref nh, .ref nb, .ref nw, .int (nI nv), .ref nt, .int tl, .int av, .int wr, .long rs])), (no, .inl (ty.1, 2000, .inl oM)), (nx, .inl (ty.1, 2000, .inl aM)), (ny, .inl (ty.1, 2000, .inl bM)), (nw, .inl (ty.1, 400, .inl (zN pb)))]) [4, 0, 1, 2, 3] rfl rfl rfl ?_
    refine hR _ _ _ _ _ _ dX6_write_18 ?_ (by omega) (by omega)
    exact Or.inr ⟨hno, rfl, rfl⟩

abbrev rm_t_X6_byteAt : Room := ({ frames := 1, cells := 0, slots := 0, locals := 22 } : Room)
set_option maxHeartbeats 4000000 in
set_option maxRecDepth 100000 in
theorem t_X6_byteAt (l : Launch) (D : va_G) (ty : g_T3) (n0 np na nc nf nq no nx ny nl nh nb nw nt : Nat) (th cp pl tl av wr : Int32) (rs : Int64) (en : Int32) (pb : Nat → Nat) (nv : Nat) (hn : nv ≤ 30) (o : Int32) : g_U l yX6_byteAt wsX6_byteAt rm_t_X6_byteAt D ty g_X0 [.ref n0, .int o] [(n0, .inr (5, [.int th, .ref np, .ref na, .int cp, .ref nc, .int en, .ref nf, .ref nq, .ref no, .ref nx, .ref ny, .ref nl, .ref nh, .ref nb, .ref nw, .int (nI nv), .ref nt, .int tl, .int av, .int wr, .long rs])), (nw, .inl (ty.1, 400, .inl (zN pb)))] 0 0 (g_ui (fun r w => (∃ k, k < nv ∧ o = nI k ∧ r = nI (pb k) ∧ w = [(n0, .inr (5, [.int (nI 0), .ref np, .ref na, .int cp, .ref nc, .int en, .ref nf, .ref nq, .ref no, .ref nx, .ref ny, .ref nl, .ref nh, .ref nb, .ref nw, .int (nI nv), .ref nt, .int tl, .int av, .int wr, .long rs])), (nw, .inl (ty.1, 400, .inl (zN pb)))]) ∨ ((o.toInt < 0 ∨ (nv : Int) ≤ o.toInt) ∧ r = nI 0 ∧ w = [(n0, .inr (5, [.int (nI 1), .ref np, .ref na, .int cp, .ref nc, .int en, .ref nf, .ref nq, .ref no, .ref nx, .ref ny, .ref nl, .ref nh, .ref nb, .ref nw, .int (nI nv), .ref nt, .int tl, .int av, .int wr, .long rs])), (nw, .inl (ty.1, 400, .inl (zN pb)))]))) := by
  refine g_ofUi (cc := cX6_byteAt) (nL := 2) (own := RX6) (by decide) rfl rfl g_X0_ok (Nat.le_of_ble_eq_true rfl) ?_
  intro p e s m args below meth c Q A C hA hX hin hR
  refine g_lv (lv' := [(0, .ref n0), (1, .int o)]) [0, 1] rfl ?_
  refine g_aload_n C dX6_byteAt_0 0 rfl rfl ?_
  refine g_iconst C dX6_byteAt_1 (v := (nI 0)) (by decide) ?_
  refine g_put C 0 rfl rfl 0 (by decide) (fun _ h => (List.mem_cons_of_mem _ (List.mem_append_right _ h))) 1 rfl rfl tyX6 tyX6_ok nmX6 rfl rfl rfl rfl (Nat.le_of_ble_eq_true rfl) (ws' := [(n0, .inr (5, [.int (nI 0), .ref np, .ref na, .int cp, .ref nc, .int en, .ref nf, .ref nq, .ref no, .ref nx, .ref ny, .ref nl, .ref nh, .ref nb, .ref nw, .int (nI nv), .ref nt, .int tl, .int av, .int wr, .long rs])), (nw, .inl (ty.1, 400, .inl (zN pb)))]) rfl dX6_byteAt_2 ?_
  refine g_iload_n C dX6_byteAt_5 1 rfl rfl ?_
  refine g_iconst C dX6_byteAt_6 (v := (nI 0)) (by decide) ?_
  refine g_aload_n C dX6_byteAt_7 0 rfl rfl ?_
  refine g_get C 0 rfl rfl 15 (by decide) (fun _ h => (List.mem_cons_of_mem _ (List.mem_append_right _ h))) 2 rfl rfl rfl dX6_byteAt_8 ?_
  refine g_iconst C dX6_byteAt_11 (v := (nI 1)) (by decide) ?_
  refine g_isub C dX6_byteAt_12 (v := (nI nv - nI 1)) rfl ?_
  refine g_callPS C ⟨g_X0_ok, trivial⟩ (t_X6_isIn l D ty o (nI 0) (nI nv - nI 1)) rfl gX6_byteAt_X6_isIn 3 (by decide +kernel) rfl ⟨rfl, rfl⟩ ⟨Nat.le_of_ble_eq_true rfl, Nat.le_of_ble_eq_true rfl⟩ (rest := []) [] rfl (Nat.le_of_ble_eq_true rfl) dX6_byteAt_13 ⟨Nat.le_of_ble_eq_true rfl, Nat.le_of_ble_eq_true rfl⟩ rfl (g_ki (fun r hr => ?_))
  subst hr
  have := bt_lt (inB o (nI 0) (nI nv - nI 1))
  have hbt := bt_lt (inB o (nI 0) (nI nv - nI 1))
  refine g_if_eqN C dX6_byteAt_16 (tgt := 28) (by decide) (by omega) (fun h16 => ?_) (fun h16 => ?_)
  · skip
    rw [isE (by omega)] at h16
    have hno := hs_0 h16
    refine g_aload_n C dX6_byteAt_28 0 rfl rfl ?_
    refine g_iconst C dX6_byteAt_29 (v := (nI 1)) (by decide) ?_
    refine g_callUV C ⟨g_X0_ok, trivial⟩ (t_X6_no l D ty n0 np na nc nf nq no nx ny nl nh nb nw nt (nI 0) cp (nI nv) tl av wr rs en (nI 1)) rfl gX6_byteAt_X6_no 1 (by decide +kernel) rfl ⟨rfl, rfl⟩ ⟨Nat.le_of_ble_eq_true rfl, Nat.le_of_ble_eq_true rfl⟩ (rest := []) (q0 := 0) rfl rfl hA [0] [1] rfl rfl rfl (wr := [(nw, .inl (ty.1, 400, .inl (zN pb)))]) rfl rfl rfl (Nat.le_of_ble_eq_true rfl) dX6_byteAt_30 ⟨Nat.le_of_ble_eq_true rfl, Nat.le_of_ble_eq_true rfl⟩ rfl (g_kui (fun r w hr => ?_))
    obtain ⟨rfl, rfl⟩ := hr
    refine g_ws (ws' := [(n0, .inr (5, [.int (nI 1), .ref np, .ref na, .int cp, .ref nc, .int en, .ref nf, .ref nq, .ref no, .ref nx, .ref ny, .ref nl, .ref nh, .ref nb, .ref nw, .int (nI nv), .ref nt, .int tl, .int av, .int wr, .long rs])), (nw, .inl (ty.1, 400, .inl (zN pb)))]) [1, 0] rfl rfl rfl ?_
    refine hR _ _ _ _ _ _ dX6_byteAt_33 ?_ (by omega) (by omega)
    first | exact Or.inl ⟨k, hk, rfl, rfl, rfl⟩ | exact Or.inr ⟨hno, rfl, rfl⟩
  · skip
    rw [isE (by omega)] at h16
    obtain ⟨k, hk, rfl⟩ := hs_1 h16
    refine g_aload_n C dX6_byteAt_19 0 rfl rfl ?_
    refine g_get C 0 rfl rfl 14 (by decide) (fun _ h => (List.mem_cons_of_mem _ (List.mem_append_right _ h))) 3 rfl rfl rfl dX6_byteAt_20 ?_
    refine g_iload_n C dX6_byteAt_23 1 rfl rfl ?_
    refine g_iald C (v := (nI (pb k))) 1 rfl (by omega) (by omega) rfl dX6_byteAt_24 ?_
    refine g_goto C dX6_byteAt_25 (tgt := 33) (by decide) ?_
    refine hR _ _ _ _ _ _ dX6_byteAt_33 ?_ (by omega) (by omega)
    first | exact Or.inl ⟨k, hk, rfl, rfl, rfl⟩ | exact Or.inr ⟨hno, rfl, rfl⟩

abbrev rm_t_X6_feed : Room := ({ frames := 1, cells := 1, slots := 5, locals := 21 } : Room)
set_option maxHeartbeats 4000000 in
set_option maxRecDepth 100000 in
theorem t_X6_feed (l : Launch) (D : va_G) (ty : g_T3) (n0 np na nc nf nq no nx ny nl nh nb nw nt : Nat) (th cp pl av wr : Int32) (rs : Int64) (en : Int32) (tl : Nat) (tb : Nat → Nat) (htl : tl ≤ 300) (i1 i2 i3 i4 i5 : Int32) : g_U l yX6_feed wsX6_feed rm_t_X6_feed D ty g_X0 [.ref n0, .int i1, .int i2, .int i3, .int i4, .int i5] [(n0, .inr (5, [.int th, .ref np, .ref na, .int cp, .ref nc, .int en, .ref nf, .ref nq, .ref no, .ref nx, .ref ny, .ref nl, .ref nh, .ref nb, .ref nw, .int pl, .ref nt, .int (nI tl), .int av, .int wr, .long rs])), (nt, .inl (ty.1, 300, .inl (zN tb)))] 1 5 (g_ui (fun r w => (tl + 20 ≤ 300 ∧ r = nI (tl + 20) ∧ w = [(n0, .inr (5, [.int (nI 0), .ref np, .ref na, .int cp, .ref nc, .int en, .ref nf, .ref nq, .ref no, .ref nx, .ref ny, .ref nl, .ref nh, .ref nb, .ref nw, .int pl, .ref nt, .int (nI (tl + 20)), .int av, .int wr, .long rs])), (nt, .inl (ty.1, 300, .inl (zN (ap4 (ap4 (ap4 (ap4 (ap4 tb tl i1) (tl + 4) i2) (tl + 4 + 4) i3) (tl + 4 + 4 + 4) i4) (tl + 4 + 4 + 4 + 4) i5))))]) ∨ (300 < tl + 20 ∧ r = nI 0 ∧ w = [(n0, .inr (5, [.int (nI 1), .ref np, .ref na, .int cp, .ref nc, .int en, .ref nf, .ref nq, .ref no, .ref nx, .ref ny, .ref nl, .ref nh, .ref nb, .ref nw, .int pl, .ref nt, .int (nI tl), .int av, .int wr, .long rs])), (nt, .inl (ty.1, 300, .inl (zN tb)))]))) := by
  refine g_ofUi (cc := cX6_feed) (nL := 12) (own := RX6) (by decide) rfl rfl g_X0_ok (Nat.le_of_ble_eq_true rfl) ?_
  intro p e s m args below meth c Q A C hA hX hin hR
  refine g_lv (lv' := [(0, .ref n0), (1, .int i1), (2, .int i2), (3, .int i3), (4, .int i4), (5, .int i5)]) [0, 1, 2, 3, 4, 5] rfl ?_
  refine g_aload_n C dX6_feed_0 0 rfl rfl ?_
  refine g_iconst C dX6_feed_1 (v := (nI 0)) (by decide) ?_
  refine g_put C 0 rfl rfl 0 (by decide) (fun _ h => (List.mem_cons_of_mem _ (List.mem_append_right _ h))) 1 rfl rfl tyX6 tyX6_ok nmX6 rfl rfl rfl rfl (Nat.le_of_ble_eq_true rfl) (ws' := [(n0, .inr (5, [.int (nI 0), .ref np, .ref na, .int cp, .ref nc, .int en, .ref nf, .ref nq, .ref no, .ref nx, .ref ny, .ref nl, .ref nh, .ref nb, .ref nw, .int pl, .ref nt, .int (nI tl), .int av, .int wr, .long rs])), (nt, .inl (ty.1, 300, .inl (zN tb)))]) rfl dX6_feed_2 ?_
  refine g_aload_n C dX6_feed_5 0 rfl rfl ?_
  refine g_get C 0 rfl rfl 17 (by decide) (fun _ h => (List.mem_cons_of_mem _ (List.mem_append_right _ h))) 2 rfl rfl rfl dX6_feed_6 ?_
  refine g_bipush C dX6_feed_9 (v := (nI 20)) (by decide) ?_
  refine g_iadd C dX6_feed_11 (v := (nI (tl + 20))) (nI_add _ _) ?_
  refine g_sipush C dX6_feed_12 (v := (nI 300)) (by decide) ?_
  refine g_icmp_le C dX6_feed_15 (tgt := 24) (by decide) (fun h15 => ?_) (fun h15 => ?_)
  · skip
    rw [nI_toInt (by omega), nI_toInt (by omega)] at h15
    refine g_iconst C dX6_feed_24 (v := (nI 5)) (by decide) ?_
    refine g_newaI C hA (n := 5) (f := (fun _ => 0)) 3 rfl (fun _ => rfl) (Nat.le_of_ble_eq_true rfl) (Nat.le_of_ble_eq_true rfl) (Nat.le_of_ble_eq_true rfl) dX6_feed_25 (fun q25 => ?_)
    refine g_dup C dX6_feed_27 rfl ?_
    refine g_iconst C dX6_feed_28 (v := (nI 0)) (by decide) ?_
    refine g_iload_n C dX6_feed_29 1 rfl rfl ?_
    refine g_iast C 2 rfl (by omega) (by omega) (f' := upd (fun _ => 0) 0 i1) rfl (ws' := [(n0, .inr (5, [.int (nI 0), .ref np, .ref na, .int cp, .ref nc, .int en, .ref nf, .ref nq, .ref no, .ref nx, .ref ny, .ref nl, .ref nh, .ref nb, .ref nw, .int pl, .ref nt, .int (nI tl), .int av, .int wr, .long rs])), (nt, .inl (ty.1, 300, .inl (zN tb))), (q25, .inl (ty.1, 5, .inl (upd (fun _ => 0) 0 i1)))]) rfl dX6_feed_30 ?_
    refine g_dup C dX6_feed_31 rfl ?_
    refine g_iconst C dX6_feed_32 (v := (nI 1)) (by decide) ?_
    refine g_iload_n C dX6_feed_33 2 rfl rfl ?_
    refine g_iast C 2 rfl (by omega) (by omega) (f' := upd (upd (fun _ => 0) 0 i1) 1 i2) rfl (ws' := [(n0, .inr (5, [.int (nI 0), .ref np, .ref na, .int cp, .ref nc, .int en, .ref nf, .ref nq, .ref no, .ref nx, .ref ny, .ref nl, .ref nh, .ref nb, .ref nw, .int pl, .ref nt, .int (nI tl), .int av, .int wr, .long rs])), (nt, .inl (ty.1, 300, .inl (zN tb))), (q25, .inl (ty.1, 5, .inl (upd (upd (fun _ => 0) 0 i1) 1 i2)))]) rfl dX6_feed_34 ?_
    refine g_dup C dX6_feed_35 rfl ?_
    refine g_iconst C dX6_feed_36 (v := (nI 2)) (by decide) ?_
    refine g_iload_n C dX6_feed_37 3 rfl rfl ?_
    refine g_iast C 2 rfl (by omega) (by omega) (f' := upd (upd (upd (fun _ => 0) 0 i1) 1 i2) 2 i3) rfl (ws' := [(n0, .inr (5, [.int (nI 0), .ref np, .ref na, .int cp, .ref nc, .int en, .ref nf, .ref nq, .ref no, .ref nx, .ref ny, .ref nl, .ref nh, .ref nb, .ref nw, .int pl, .ref nt, .int (nI tl), .int av, .int wr, .long rs])), (nt, .inl (ty.1, 300, .inl (zN tb))), (q25, .inl (ty.1, 5, .inl (upd (upd (upd (fun _ => 0) 0 i1) 1 i2) 2 i3)))]) rfl dX6_feed_38 ?_
    refine g_dup C dX6_feed_39 rfl ?_
    refine g_iconst C dX6_feed_40 (v := (nI 3)) (by decide) ?_
    refine g_iload C dX6_feed_41 4 rfl ?_
    refine g_iast C 2 rfl (by omega) (by omega) (f' := upd (upd (upd (upd (fun _ => 0) 0 i1) 1 i2) 2 i3) 3 i4) rfl (ws' := [(n0, .inr (5, [.int (nI 0), .ref np, .ref na, .int cp, .ref nc, .int en, .ref nf, .ref nq, .ref no, .ref nx, .ref ny, .ref nl, .ref nh, .ref nb, .ref nw, .int pl, .ref nt, .int (nI tl), .int av, .int wr, .long rs])), (nt, .inl (ty.1, 300, .inl (zN tb))), (q25, .inl (ty.1, 5, .inl (upd (upd (upd (upd (fun _ => 0) 0 i1) 1 i2) 2 i3) 3 i4)))]) rfl dX6_feed_43 ?_
    refine g_dup C dX6_feed_44 rfl ?_
    refine g_iconst C dX6_feed_45 (v := (nI 4)) (by decide) ?_
    refine g_iload C dX6_feed_46 5 rfl ?_
    refine g_iast C 2 rfl (by omega) (by omega) (f' := upd (upd (upd (upd (upd (fun _ => 0) 0 i1) 1 i2) 2 i3) 3 i4) 4 i5) rfl (ws' := [(n0, .inr (5, [.int (nI 0), .ref np, .ref na, .int cp, .ref nc, .int en, .ref nf, .ref nq, .ref no, .ref nx, .ref ny, .ref nl, .ref nh, .ref nb, .ref nw, .int pl, .ref nt, .int (nI tl), .int av, .int wr, .long rs])), (nt, .inl (ty.1, 300, .inl (zN tb))), (q25, .inl (ty.1, 5, .inl (upd (upd (upd (upd (upd (fun _ => 0) 0 i1) 1 i2) 2 i3) 3 i4) 4 i5)))]) rfl dX6_feed_48 ?_
    refine g_ct (f' := (vf5 i1 i2 i3 i4 i5)) 2 rfl vf5_ok rfl ?_
    refine g_astore C dX6_feed_49 (by decide) (lv' := [(6, .ref q25), (0, .ref n0), (1, .int i1), (2, .int i2), (3, .int i3), (4, .int i4), (5, .int i5)]) rfl ?_
    refine g_aload C dX6_feed_51 0 rfl ?_
    refine g_astore C dX6_feed_53 (by decide) (lv' := [(7, .ref q25), (6, .ref q25), (0, .ref n0), (1, .int i1), (2, .int i2), (3, .int i3), (4, .int i4), (5, .int i5)]) rfl ?_
    refine g_aload C dX6_feed_55 0 rfl ?_
    refine g_alen C (v := nI 5) 2 rfl (t0 := 0) rfl rfl dX6_feed_57 ?_
    refine g_istore C dX6_feed_58 (by decide) (lv' := [(8, .int (nI 5)), (7, .ref q25), (6, .ref q25), (0, .ref n0), (1, .int i1), (2, .int i2), (3, .int i3), (4, .int i4), (5, .int i5)]) rfl ?_
    refine g_iconst C dX6_feed_60 (v := (nI 0)) (by decide) ?_
    refine g_istore C dX6_feed_61 (by decide) (lv' := [(9, .int (nI 0)), (8, .int (nI 5)), (7, .ref q25), (6, .ref q25), (0, .ref n0), (1, .int i1), (2, .int i2), (3, .int i3), (4, .int i4), (5, .int i5)]) rfl ?_
    have L63 : ∀ (n9 : Nat) (i : Nat), 5 - i < n9 → (i ≤ 5) → gG (g_IU A D s) p l e rm_t_X6_feed s m args below meth c Q 12 (0 + 1) (0 + 5) 63 [(9, .int (nI i)), (8, .int (nI 5)), (7, .ref q25), (6, .ref q25), (0, .ref n0), (1, .int i1), (2, .int i2), (3, .int i3), (4, .int i4), (5, .int i5)] [] [(n0, .inr (5, [.int (nI 0), .ref np, .ref na, .int cp, .ref nc, .int en, .ref nf, .ref nq, .ref no, .ref nx, .ref ny, .ref nl, .ref nh, .ref nb, .ref nw, .int pl, .ref nt, .int (nI (tl + 4 * i)), .int av, .int wr, .long rs])), (nt, .inl (ty.1, 300, .inl (zN (apV tb tl (vf5 i1 i2 i3 i4 i5) i)))), (q25, .inl (ty.1, 5, .inl (vf5 i1 i2 i3 i4 i5)))] := by
      intro n9
      induction n9 with
      | zero => intro i hn; exact absurd hn (Nat.not_lt_zero _)
      | succ n9 ih63 =>
        intro i hn63 hi
        refine g_iload C dX6_feed_63 0 rfl ?_
        refine g_iload C dX6_feed_65 1 rfl ?_
        refine g_icmp_geN C dX6_feed_67 (tgt := 128) (by decide) (by omega) (by omega) (fun h67 => ?_) (fun h67 => ?_)
        · skip
          obtain rfl : i = 5 := by omega
          refine g_aload_n C dX6_feed_128 4 rfl rfl ?_
          refine g_get C 0 rfl rfl 17 (by decide) (fun _ h => (List.mem_cons_of_mem _ (List.mem_append_right _ h))) 2 rfl rfl rfl dX6_feed_129 ?_
          refine g_ws [0, 1] rfl rfl rfl ?_
          refine hR _ _ _ _ _ _ dX6_feed_132 ?_ (by omega) (by omega)
          exact Or.inl ⟨by omega, rfl, rfl⟩
        · skip
          refine g_aload C dX6_feed_70 2 rfl ?_
          refine g_iload C dX6_feed_72 0 rfl ?_
          refine g_iald C (v := ((vf5 i1 i2 i3 i4 i5) i)) 2 rfl (by omega) (by omega) rfl dX6_feed_74 ?_
          refine g_istore C dX6_feed_75 (by decide) (lv' := [(10, .int ((vf5 i1 i2 i3 i4 i5) i)), (9, .int (nI i)), (8, .int (nI 5)), (7, .ref q25), (6, .ref q25), (0, .ref n0), (1, .int i1), (2, .int i2), (3, .int i3), (4, .int i4), (5, .int i5)]) rfl ?_
          refine g_iconst C dX6_feed_77 (v := (nI 3)) (by decide) ?_
          refine g_istore C dX6_feed_78 (by decide) (lv' := [(11, .int (nI 3)), (10, .int ((vf5 i1 i2 i3 i4 i5) i)), (9, .int (nI i)), (8, .int (nI 5)), (7, .ref q25), (6, .ref q25), (0, .ref n0), (1, .int i1), (2, .int i2), (3, .int i3), (4, .int i4), (5, .int i5)]) rfl ?_
          have L80 : ∀ (n9 : Nat) (j : Nat) (tb2 : Nat → Nat), 4 - j < n9 → (j ≤ 4) → (apB (apV tb tl (vf5 i1 i2 i3 i4 i5) i) (tl + 4 * i) ((vf5 i1 i2 i3 i4 i5) i) j = tb2) → gG (g_IU A D s) p l e rm_t_X6_feed s m args below meth c Q 12 (0 + 1) (0 + 5) 80 [(11, .int (nI 3 - nI j)), (10, .int ((vf5 i1 i2 i3 i4 i5) i)), (9, .int (nI i)), (8, .int (nI 5)), (7, .ref q25), (6, .ref q25), (0, .ref n0), (1, .int i1), (2, .int i2), (3, .int i3), (4, .int i4), (5, .int i5)] [] [(n0, .inr (5, [.int (nI 0), .ref np, .ref na, .int cp, .ref nc, .int en, .ref nf, .ref nq, .ref no, .ref nx, .ref ny, .ref nl, .ref nh, .ref nb, .ref nw, .int pl, .ref nt, .int (nI (tl + 4 * i + j)), .int av, .int wr, .long rs])), (nt, .inl (ty.1, 300, .inl (zN tb2))), (q25, .inl (ty.1, 5, .inl (vf5 i1 i2 i3 i4 i5)))] := by
            intro n9
            induction n9 with
            | zero => intro j tb2 hn; exact absurd hn (Nat.not_lt_zero _)
            | succ n9 ih80 =>
              intro j tb2 hn80 hj ht
              refine g_iload C dX6_feed_80 0 rfl ?_
              have h3 : (nI 3 - nI j).toInt = (3 : Int) - (j : Int) := pk_sub_toInt (by decide) (by omega)
              refine g_if_lt C dX6_feed_82 (tgt := 122) (by decide) (fun h82 => ?_) (fun h82 => ?_)
              · skip
                obtain rfl : j = 4 := by omega
                subst ht
                refine g_iinc C dX6_feed_122 2 rfl (v := (nI (i + 1))) (nI_1 i) (by decide) (lv' := [(9, .int (nI (i + 1))), (11, .int (nI 3 - nI 4)), (10, .int ((vf5 i1 i2 i3 i4 i5) i)), (8, .int (nI 5)), (7, .ref q25), (6, .ref q25), (0, .ref n0), (1, .int i1), (2, .int i2), (3, .int i3), (4, .int i4), (5, .int i5)]) rfl ?_
                refine g_goto C dX6_feed_125 (tgt := 63) (by decide) ?_
                refine g_lv [0, 3, 4, 5, 6, 7, 8, 9, 10, 11] rfl ?_
                exact ih63 (i + 1) (by omega) (by omega)
              · skip
                have hj3 : j ≤ 3 := by omega
                rw [pk_sub (show j ≤ 3 by omega)]
                refine g_aload_n C dX6_feed_85 6 rfl rfl ?_
                refine g_get C 0 rfl rfl 16 (by decide) (fun _ h => (List.mem_cons_of_mem _ (List.mem_append_right _ h))) 4 rfl rfl rfl dX6_feed_86 ?_
                refine g_aload_n C dX6_feed_89 6 rfl rfl ?_
                refine g_get C 0 rfl rfl 17 (by decide) (fun _ h => (List.mem_cons_of_mem _ (List.mem_append_right _ h))) 2 rfl rfl rfl dX6_feed_90 ?_
                refine g_iload C dX6_feed_93 1 rfl ?_
                refine g_bipush C dX6_feed_95 (v := (nI 8)) (by decide) ?_
                refine g_iload C dX6_feed_97 0 rfl ?_
                refine g_imul C dX6_feed_99 (v := (nI (8 * (3 - j)))) (pk_mul _ _) ?_
                refine g_ishr C dX6_feed_100 (v := (i_shr ((vf5 i1 i2 i3 i4 i5) i) (nI (8 * (3 - j))))) rfl ?_
                refine g_sipush C dX6_feed_101 (v := (nI 255)) (by decide) ?_
                refine g_iand C dX6_feed_104 (v := (nI (byN ((vf5 i1 i2 i3 i4 i5) i) (8 * (3 - j))))) (by_s ((vf5 i1 i2 i3 i4 i5) i) (by omega)) ?_
                refine g_iast C 1 rfl (by omega) (by omega) (f' := zN (va_up tb2 (tl + 4 * i + j) (byN ((vf5 i1 i2 i3 i4 i5) i) (8 * (3 - j))))) (zN_upd _ _ _) (ws' := [(n0, .inr (5, [.int (nI 0), .ref np, .ref na, .int cp, .ref nc, .int en, .ref nf, .ref nq, .ref no, .ref nx, .ref ny, .ref nl, .ref nh, .ref nb, .ref nw, .int pl, .ref nt, .int (nI (tl + 4 * i + j)), .int av, .int wr, .long rs])), (nt, .inl (ty.1, 300, .inl (zN (va_up tb2 (tl + 4 * i + j) (byN ((vf5 i1 i2 i3 i4 i5) i) (8 * (3 - j))))))), (q25, .inl (ty.1, 5, .inl (vf5 i1 i2 i3 i4 i5)))]) rfl dX6_feed_105 ?_
                refine g_aload_n C dX6_feed_106 6 rfl rfl ?_
                refine g_dup C dX6_feed_107 rfl ?_
                refine g_get C 0 rfl rfl 17 (by decide) (fun _ h => (List.mem_cons_of_mem _ (List.mem_append_right _ h))) 2 rfl rfl rfl dX6_feed_108 ?_
                refine g_iconst C dX6_feed_111 (v := (nI 1)) (by decide) ?_
                refine g_iadd C dX6_feed_112 (v := (nI ((tl + 4 * i + j) + 1))) (nI_add _ _) ?_
                refine g_put C 0 rfl rfl 17 (by decide) (fun _ h => (List.mem_cons_of_mem _ (List.mem_append_right _ h))) 2 rfl rfl tyX6 tyX6_ok nmX6 rfl rfl rfl rfl (Nat.le_of_ble_eq_true rfl) (ws' := [(n0, .inr (5, [.int (nI 0), .ref np, .ref na, .int cp, .ref nc, .int en, .ref nf, .ref nq, .ref no, .ref nx, .ref ny, .ref nl, .ref nh, .ref nb, .ref nw, .int pl, .ref nt, .int (nI ((tl + 4 * i + j) + 1)), .int av, .int wr, .long rs])), (nt, .inl (ty.1, 300, .inl (zN (va_up tb2 (tl + 4 * i + j) (byN ((vf5 i1 i2 i3 i4 i5) i) (8 * (3 - j))))))), (q25, .inl (ty.1, 5, .inl (vf5 i1 i2 i3 i4 i5)))]) rfl dX6_feed_113 ?_
                refine g_iinc C dX6_feed_116 0 rfl (v := (nI 3 - nI (j + 1))) (dec3 hj3) (by decide) (lv' := [(11, .int (nI 3 - nI (j + 1))), (10, .int ((vf5 i1 i2 i3 i4 i5) i)), (9, .int (nI i)), (8, .int (nI 5)), (7, .ref q25), (6, .ref q25), (0, .ref n0), (1, .int i1), (2, .int i2), (3, .int i3), (4, .int i4), (5, .int i5)]) rfl ?_
                refine g_goto C dX6_feed_119 (tgt := 80) (by decide) ?_
                exact ih80 (j + 1) _ (by omega) (by omega) (by rw [← ht, show 8 * (3 - j) = 24 - 8 * j by omega]; exact apB_s hj3)
          exact L80 _ 0 (apV tb tl (vf5 i1 i2 i3 i4 i5) i) (Nat.lt_succ_self _) (by omega) rfl
    exact L63 _ 0 (Nat.lt_succ_self _) (by omega)
  · skip
    rw [nI_toInt (by omega), nI_toInt (by omega)] at h15
    refine g_aload_n C dX6_feed_18 0 rfl rfl ?_
    refine g_iconst C dX6_feed_19 (v := (nI 1)) (by decide) ?_
    refine g_callUV C ⟨g_X0_ok, trivial⟩ (t_X6_no l D ty n0 np na nc nf nq no nx ny nl nh nb nw nt (nI 0) cp pl (nI tl) av wr rs en (nI 1)) rfl gX6_feed_X6_no 1 (by decide +kernel) rfl ⟨rfl, rfl⟩ ⟨Nat.le_of_ble_eq_true rfl, Nat.le_of_ble_eq_true rfl⟩ (rest := []) (q0 := 0) rfl rfl hA [0] [1] rfl rfl rfl (wr := [(nt, .inl (ty.1, 300, .inl (zN tb)))]) rfl rfl rfl (Nat.le_of_ble_eq_true rfl) dX6_feed_20 ⟨Nat.le_of_ble_eq_true rfl, Nat.le_of_ble_eq_true rfl⟩ rfl (g_kui (fun r w hr => ?_))
    obtain ⟨rfl, rfl⟩ := hr
    refine g_ws (ws' := [(n0, .inr (5, [.int (nI 1), .ref np, .ref na, .int cp, .ref nc, .int en, .ref nf, .ref nq, .ref no, .ref nx, .ref ny, .ref nl, .ref nh, .ref nb, .ref nw, .int pl, .ref nt, .int (nI tl), .int av, .int wr, .long rs])), (nt, .inl (ty.1, 300, .inl (zN tb)))]) [1, 0] rfl rfl rfl ?_
    refine hR _ _ _ _ _ _ dX6_feed_23 ?_ (by omega) (by omega)
    exact Or.inr ⟨by omega, rfl, rfl⟩

abbrev rm_t_X6_trim : Room := ({ frames := 1, cells := 0, slots := 0, locals := 22 } : Room)
set_option maxHeartbeats 4000000 in
set_option maxRecDepth 100000 in
theorem t_X6_trim (l : Launch) (D : va_G) (ty : g_T3) (n0 np na nc nf nq no nx ny nl nh nb nw nt : Nat) (th cp pl av wr : Int32) (rs : Int64) (en : Int32) (tl : Nat) (htl : tl ≤ 300) (o : Int32) : g_U l yX6_trim wsX6_trim rm_t_X6_trim D ty g_X0 [.ref n0, .int o] [(n0, .inr (5, [.int th, .ref np, .ref na, .int cp, .ref nc, .int en, .ref nf, .ref nq, .ref no, .ref nx, .ref ny, .ref nl, .ref nh, .ref nb, .ref nw, .int pl, .ref nt, .int (nI tl), .int av, .int wr, .long rs]))] 0 0 (g_ui (fun r w => (∃ k, k ≤ tl ∧ o = nI k ∧ r = nI k ∧ w = [(n0, .inr (5, [.int (nI 0), .ref np, .ref na, .int cp, .ref nc, .int en, .ref nf, .ref nq, .ref no, .ref nx, .ref ny, .ref nl, .ref nh, .ref nb, .ref nw, .int pl, .ref nt, .int (nI k), .int av, .int wr, .long rs]))]) ∨ ((o.toInt < 0 ∨ (tl : Int) < o.toInt) ∧ r = nI 0 ∧ w = [(n0, .inr (5, [.int (nI 1), .ref np, .ref na, .int cp, .ref nc, .int en, .ref nf, .ref nq, .ref no, .ref nx, .ref ny, .ref nl, .ref nh, .ref nb, .ref nw, .int pl, .ref nt, .int (nI tl), .int av, .int wr, .long rs]))]))) := by
  refine g_ofUi (cc := cX6_trim) (nL := 2) (own := RX6) (by decide) rfl rfl g_X0_ok (Nat.le_of_ble_eq_true rfl) ?_
  intro p e s m args below meth c Q A C hA hX hin hR
  refine g_lv (lv' := [(0, .ref n0), (1, .int o)]) [0, 1] rfl ?_
  refine g_aload_n C dX6_trim_0 0 rfl rfl ?_
  refine g_iconst C dX6_trim_1 (v := (nI 0)) (by decide) ?_
  refine g_put C 0 rfl rfl 0 (by decide) (fun _ h => (List.mem_cons_of_mem _ (List.mem_append_right _ h))) 1 rfl rfl tyX6 tyX6_ok nmX6 rfl rfl rfl rfl (Nat.le_of_ble_eq_true rfl) (ws' := [(n0, .inr (5, [.int (nI 0), .ref np, .ref na, .int cp, .ref nc, .int en, .ref nf, .ref nq, .ref no, .ref nx, .ref ny, .ref nl, .ref nh, .ref nb, .ref nw, .int pl, .ref nt, .int (nI tl), .int av, .int wr, .long rs]))]) rfl dX6_trim_2 ?_
  refine g_iload_n C dX6_trim_5 1 rfl rfl ?_
  refine g_iconst C dX6_trim_6 (v := (nI 0)) (by decide) ?_
  refine g_aload_n C dX6_trim_7 0 rfl rfl ?_
  refine g_get C 0 rfl rfl 17 (by decide) (fun _ h => (List.mem_cons_of_mem _ (List.mem_append_right _ h))) 2 rfl rfl rfl dX6_trim_8 ?_
  refine g_callPS C ⟨g_X0_ok, trivial⟩ (t_X6_isIn l D ty o (nI 0) (nI tl)) rfl gX6_trim_X6_isIn 3 (by decide +kernel) rfl ⟨rfl, rfl⟩ ⟨Nat.le_of_ble_eq_true rfl, Nat.le_of_ble_eq_true rfl⟩ (rest := []) [] rfl (Nat.le_of_ble_eq_true rfl) dX6_trim_11 ⟨Nat.le_of_ble_eq_true rfl, Nat.le_of_ble_eq_true rfl⟩ rfl (g_ki (fun r hr => ?_))
  subst hr
  have := bt_lt (inB o (nI 0) (nI tl))
  refine g_if_neN C dX6_trim_14 (tgt := 23) (by decide) (by omega) (fun h14 => ?_) (fun h14 => ?_)
  · skip
    obtain ⟨k, hk, rfl⟩ := in_nI (by omega) h14
    refine g_aload_n C dX6_trim_23 0 rfl rfl ?_
    refine g_iload_n C dX6_trim_24 1 rfl rfl ?_
    refine g_put C 0 rfl rfl 17 (by decide) (fun _ h => (List.mem_cons_of_mem _ (List.mem_append_right _ h))) 2 rfl rfl tyX6 tyX6_ok nmX6 rfl rfl rfl rfl (Nat.le_of_ble_eq_true rfl) (ws' := [(n0, .inr (5, [.int (nI 0), .ref np, .ref na, .int cp, .ref nc, .int en, .ref nf, .ref nq, .ref no, .ref nx, .ref ny, .ref nl, .ref nh, .ref nb, .ref nw, .int pl, .ref nt, .int (nI k), .int av, .int wr, .long rs]))]) rfl dX6_trim_25 ?_
    refine g_iload_n C dX6_trim_28 1 rfl rfl ?_
    refine hR _ _ _ _ _ _ dX6_trim_29 ?_ (by omega) (by omega)
    exact Or.inl ⟨k, hk, rfl, rfl, rfl⟩
  · skip
    have hno := in_no (by omega) h14
    refine g_aload_n C dX6_trim_17 0 rfl rfl ?_
    refine g_iconst C dX6_trim_18 (v := (nI 1)) (by decide) ?_
    refine g_callUV C ⟨g_X0_ok, trivial⟩ (t_X6_no l D ty n0 np na nc nf nq no nx ny nl nh nb nw nt (nI 0) cp pl (nI tl) av wr rs en (nI 1)) rfl gX6_trim_X6_no 1 (by decide +kernel) rfl ⟨rfl, rfl⟩ ⟨Nat.le_of_ble_eq_true rfl, Nat.le_of_ble_eq_true rfl⟩ (rest := []) (q0 := 0) rfl rfl hA [0] [] rfl rfl rfl (wr := []) rfl rfl rfl (Nat.le_of_ble_eq_true rfl) dX6_trim_19 ⟨Nat.le_of_ble_eq_true rfl, Nat.le_of_ble_eq_true rfl⟩ rfl (g_kui (fun r w hr => ?_))
    obtain ⟨rfl, rfl⟩ := hr
    refine g_ws (ws' := [(n0, .inr (5, [.int (nI 1), .ref np, .ref na, .int cp, .ref nc, .int en, .ref nf, .ref nq, .ref no, .ref nx, .ref ny, .ref nl, .ref nh, .ref nb, .ref nw, .int pl, .ref nt, .int (nI tl), .int av, .int wr, .long rs]))]) [0] rfl rfl rfl ?_
    refine hR _ _ _ _ _ _ dX6_trim_22 ?_ (by omega) (by omega)
    exact Or.inr ⟨hno, rfl, rfl⟩

abbrev rm_t_X6_result : Room := ({ frames := 0, cells := 0, slots := 0, locals := 0 } : Room)
set_option maxHeartbeats 4000000 in
set_option maxRecDepth 100000 in
theorem t_X6_result (l : Launch) (D : va_G) (ty : g_T3) (n0 np na nc nf nq no nx ny nl nh nb nw nt : Nat) (th cp pl tl av wr : Int32) (rs : Int64) (en : Int32)  : g_U l yX6_result wsX6_result rm_t_X6_result D ty g_X0 [.ref n0] [(n0, .inr (5, [.int th, .ref np, .ref na, .int cp, .ref nc, .int en, .ref nf, .ref nq, .ref no, .ref nx, .ref ny, .ref nl, .ref nh, .ref nb, .ref nw, .int pl, .ref nt, .int tl, .int av, .int wr, .long rs]))] 0 0 (g_ul (fun r w => r = rs ∧ w = [(n0, .inr (5, [.int (nI 0), .ref np, .ref na, .int cp, .ref nc, .int en, .ref nf, .ref nq, .ref no, .ref nx, .ref ny, .ref nl, .ref nh, .ref nb, .ref nw, .int pl, .ref nt, .int tl, .int av, .int wr, .long rs]))])) := by
  refine g_ofUl (cc := cX6_result) (nL := 1) (own := RX6) (by decide) rfl rfl g_X0_ok (Nat.le_of_ble_eq_true rfl) ?_
  intro p e s m args below meth c Q A C hA hX hin hR
  refine g_lv (lv' := [(0, .ref n0)]) [0] rfl ?_
  refine g_aload_n C dX6_result_0 0 rfl rfl ?_
  refine g_iconst C dX6_result_1 (v := (nI 0)) (by decide) ?_
  refine g_put C 0 rfl rfl 0 (by decide) (fun _ h => (List.mem_cons_of_mem _ (List.mem_append_right _ h))) 1 rfl rfl tyX6 tyX6_ok nmX6 rfl rfl rfl rfl (Nat.le_of_ble_eq_true rfl) (ws' := [(n0, .inr (5, [.int (nI 0), .ref np, .ref na, .int cp, .ref nc, .int en, .ref nf, .ref nq, .ref no, .ref nx, .ref ny, .ref nl, .ref nh, .ref nb, .ref nw, .int pl, .ref nt, .int tl, .int av, .int wr, .long rs]))]) rfl dX6_result_2 ?_
  refine g_aload_n C dX6_result_5 0 rfl rfl ?_
  refine g_get C 0 rfl rfl 20 (by decide) (fun _ h => (List.mem_cons_of_mem _ (List.mem_append_right _ h))) 2 rfl rfl rfl dX6_result_6 ?_
  refine hR _ _ _ _ _ _ dX6_result_9 ?_ (by omega) (by omega)
  exact ⟨rfl, rfl⟩

abbrev rm_t_X6_digest : Room := ({ frames := 1, cells := 0, slots := 0, locals := 22 } : Room)
set_option maxHeartbeats 4000000 in
set_option maxRecDepth 100000 in
theorem t_X6_digest (l : Launch) (D : va_G) (ty : g_T3) (n0 np na nc nf nq no nx ny nl nh nb nw nt : Nat) (th av wr : Int32) (rs : Int64) (es : List Ent) (fM : Nat → Int64) (qM oM aM bM lM hM : Nat → Int32) (hw : modOk es fM qM oM aM bM lM hM) (hwf : wfE es) (p2 : Nat → Nat) (al cs : Nat → Bool) (hp : (∀ k, k < 10 → 1 ≤ p2 k ∧ p2 k ≤ 5) ∧ p2 10 ≤ 5) (pb : Nat → Nat) (nv tl : Nat) (hnv : nv ≤ 30) (htl : tl ≤ 300) : g_U l yX6_digest wsX6_digest rm_t_X6_digest D ty g_X0 [.ref n0] [(n0, .inr (5, [.int th, .ref np, .ref na, .int (nI (p2 10)), .ref nc, .int (nI es.length), .ref nf, .ref nq, .ref no, .ref nx, .ref ny, .ref nl, .ref nh, .ref nb, .ref nw, .int (nI nv), .ref nt, .int (nI tl), .int av, .int wr, .long rs])), (np, .inl (ty.1, 10, .inl (zN p2))), (na, .inl (ty.2.2, 10, .inl (zB al))), (nc, .inl (ty.2.2, 16, .inl (zB cs))), (nf, .inl (ty.2.1, 2000, .inr (.inl fM))), (nq, .inl (ty.1, 2000, .inl qM)), (no, .inl (ty.1, 2000, .inl oM)), (nx, .inl (ty.1, 2000, .inl aM)), (ny, .inl (ty.1, 2000, .inl bM)), (nw, .inl (ty.1, 400, .inl (zN pb)))] 0 0 (g_ul (fun r w => r = dg1 (dg1 (dgP pb (dg1 (dgE es (dg1 (dgB cs (dg1 (dgQ p2 al 367 10) (lN (p2 10))) 16) (lN es.length)) es.length) (lN nv)) nv) (lN tl)) rs ∧ w = [(n0, .inr (5, [.int (nI 0), .ref np, .ref na, .int (nI (p2 10)), .ref nc, .int (nI es.length), .ref nf, .ref nq, .ref no, .ref nx, .ref ny, .ref nl, .ref nh, .ref nb, .ref nw, .int (nI nv), .ref nt, .int (nI tl), .int av, .int wr, .long rs])), (np, .inl (ty.1, 10, .inl (zN p2))), (na, .inl (ty.2.2, 10, .inl (zB al))), (nc, .inl (ty.2.2, 16, .inl (zB cs))), (nf, .inl (ty.2.1, 2000, .inr (.inl fM))), (nq, .inl (ty.1, 2000, .inl qM)), (no, .inl (ty.1, 2000, .inl oM)), (nx, .inl (ty.1, 2000, .inl aM)), (ny, .inl (ty.1, 2000, .inl bM)), (nw, .inl (ty.1, 400, .inl (zN pb)))])) := by
  refine g_ofUl (cc := cX6_digest) (nL := 5) (own := RX6) (by decide) rfl rfl g_X0_ok (Nat.le_of_ble_eq_true rfl) ?_
  intro p e s m args below meth c Q A C hA hX hin hR
  refine g_lv (lv' := [(0, .ref n0)]) [0] rfl ?_
  have hl0 := hw.2.2.2.2
  refine g_aload_n C dX6_digest_0 0 rfl rfl ?_
  refine g_iconst C dX6_digest_1 (v := (nI 0)) (by decide) ?_
  refine g_put C 0 rfl rfl 0 (by decide) (fun _ h => (List.mem_cons_of_mem _ (List.mem_append_right _ h))) 1 rfl rfl tyX6 tyX6_ok nmX6 rfl rfl rfl rfl (Nat.le_of_ble_eq_true rfl) (ws' := [(n0, .inr (5, [.int (nI 0), .ref np, .ref na, .int (nI (p2 10)), .ref nc, .int (nI es.length), .ref nf, .ref nq, .ref no, .ref nx, .ref ny, .ref nl, .ref nh, .ref nb, .ref nw, .int (nI nv), .ref nt, .int (nI tl), .int av, .int wr, .long rs])), (np, .inl (ty.1, 10, .inl (zN p2))), (na, .inl (ty.2.2, 10, .inl (zB al))), (nc, .inl (ty.2.2, 16, .inl (zB cs))), (nf, .inl (ty.2.1, 2000, .inr (.inl fM))), (nq, .inl (ty.1, 2000, .inl qM)), (no, .inl (ty.1, 2000, .inl oM)), (nx, .inl (ty.1, 2000, .inl aM)), (ny, .inl (ty.1, 2000, .inl bM)), (nw, .inl (ty.1, 400, .inl (zN pb)))]) rfl dX6_digest_2 ?_
  refine g_ldc2 C (v := (367)) 2 rfl dX6_digest_5 ?_
  refine g_lstore_n C dX6_digest_8 rfl (by decide) (lv' := [(1, .long (367)), (0, .ref n0)]) rfl ?_
  refine g_iconst C dX6_digest_9 (v := (nI 0)) (by decide) ?_
  refine g_istore_n C dX6_digest_10 rfl (by decide) (lv' := [(3, .int (nI 0)), (1, .long (367)), (0, .ref n0)]) rfl ?_
  have L11 : ∀ (n9 : Nat) (i : Nat), 10 - i < n9 → (i ≤ 10) → gG (g_IU A D s) p l e rm_t_X6_digest s m args below meth c Q 5 0 0 11 [(3, .int (nI i)), (1, .long (dgQ p2 al 367 i)), (0, .ref n0)] [] [(n0, .inr (5, [.int (nI 0), .ref np, .ref na, .int (nI (p2 10)), .ref nc, .int (nI es.length), .ref nf, .ref nq, .ref no, .ref nx, .ref ny, .ref nl, .ref nh, .ref nb, .ref nw, .int (nI nv), .ref nt, .int (nI tl), .int av, .int wr, .long rs])), (np, .inl (ty.1, 10, .inl (zN p2))), (na, .inl (ty.2.2, 10, .inl (zB al))), (nc, .inl (ty.2.2, 16, .inl (zB cs))), (nf, .inl (ty.2.1, 2000, .inr (.inl fM))), (nq, .inl (ty.1, 2000, .inl qM)), (no, .inl (ty.1, 2000, .inl oM)), (nx, .inl (ty.1, 2000, .inl aM)), (ny, .inl (ty.1, 2000, .inl bM)), (nw, .inl (ty.1, 400, .inl (zN pb)))] := by
    intro n9
    induction n9 with
    | zero => intro i hn; exact absurd hn (Nat.not_lt_zero _)
    | succ n9 ih11 =>
      intro i hn11 hi
      refine g_iload_n C dX6_digest_11 0 rfl rfl ?_
      refine g_bipush C dX6_digest_12 (v := (nI 10)) (by decide) ?_
      refine g_icmp_geN C dX6_digest_14 (tgt := 56) (by decide) (by omega) (by omega) (fun h14 => ?_) (fun h14 => ?_)
      · skip
        obtain rfl : i = 10 := by omega
        refine g_lload_n C dX6_digest_56 1 rfl rfl ?_
        refine g_ldc2 C (v := (31)) 3 rfl dX6_digest_57 ?_
        refine g_lmul C dX6_digest_60 (v := ((dgQ p2 al 367 10) * (31))) rfl ?_
        refine g_aload_n C dX6_digest_61 2 rfl rfl ?_
        refine g_get C 0 rfl rfl 3 (by decide) (fun _ h => (List.mem_cons_of_mem _ (List.mem_append_right _ h))) 6 rfl rfl rfl dX6_digest_62 ?_
        refine g_i2l C dX6_digest_65 (v := (lN (p2 10))) (nI_l (by have := hp.2; omega)) ?_
        refine g_ladd C dX6_digest_66 (v := (dg1 (dgQ p2 al 367 10) (lN (p2 10)))) rfl ?_
        refine g_lstore_n C dX6_digest_67 rfl (by decide) (lv' := [(1, .long (dg1 (dgQ p2 al 367 10) (lN (p2 10)))), (3, .int (nI 10)), (0, .ref n0)]) rfl ?_
        refine g_iconst C dX6_digest_68 (v := (nI 0)) (by decide) ?_
        refine g_istore_n C dX6_digest_69 rfl (by decide) (lv' := [(3, .int (nI 0)), (1, .long (dg1 (dgQ p2 al 367 10) (lN (p2 10)))), (0, .ref n0)]) rfl ?_
        have L70 : ∀ (n9 : Nat) (i : Nat), 16 - i < n9 → (i ≤ 16) → gG (g_IU A D s) p l e rm_t_X6_digest s m args below meth c Q 5 0 0 70 [(3, .int (nI i)), (1, .long (dgB cs (dg1 (dgQ p2 al 367 10) (lN (p2 10))) i)), (0, .ref n0)] [] [(n0, .inr (5, [.int (nI 0), .ref np, .ref na, .int (nI (p2 10)), .ref nc, .int (nI es.length), .ref nf, .ref nq, .ref no, .ref nx, .ref ny, .ref nl, .ref nh, .ref nb, .ref nw, .int (nI nv), .ref nt, .int (nI tl), .int av, .int wr, .long rs])), (np, .inl (ty.1, 10, .inl (zN p2))), (na, .inl (ty.2.2, 10, .inl (zB al))), (nc, .inl (ty.2.2, 16, .inl (zB cs))), (nf, .inl (ty.2.1, 2000, .inr (.inl fM))), (nq, .inl (ty.1, 2000, .inl qM)), (no, .inl (ty.1, 2000, .inl oM)), (nx, .inl (ty.1, 2000, .inl aM)), (ny, .inl (ty.1, 2000, .inl bM)), (nw, .inl (ty.1, 400, .inl (zN pb)))] := by
          intro n9
          induction n9 with
          | zero => intro i hn; exact absurd hn (Nat.not_lt_zero _)
          | succ n9 ih70 =>
            intro i hn70 hi
            refine g_iload_n C dX6_digest_70 0 rfl rfl ?_
            refine g_bipush C dX6_digest_71 (v := (nI 16)) (by decide) ?_
            refine g_icmp_geN C dX6_digest_73 (tgt := 103) (by decide) (by omega) (by omega) (fun h73 => ?_) (fun h73 => ?_)
            · skip
              obtain rfl : i = 16 := by omega
              refine g_lload_n C dX6_digest_103 1 rfl rfl ?_
              refine g_ldc2 C (v := (31)) 3 rfl dX6_digest_104 ?_
              refine g_lmul C dX6_digest_107 (v := ((dgB cs (dg1 (dgQ p2 al 367 10) (lN (p2 10))) 16) * (31))) rfl ?_
              refine g_aload_n C dX6_digest_108 2 rfl rfl ?_
              refine g_get C 0 rfl rfl 5 (by decide) (fun _ h => (List.mem_cons_of_mem _ (List.mem_append_right _ h))) 8 rfl rfl rfl dX6_digest_109 ?_
              refine g_i2l C dX6_digest_112 (v := (lN es.length)) (nI_l (by omega)) ?_
              refine g_ladd C dX6_digest_113 (v := (dg1 (dgB cs (dg1 (dgQ p2 al 367 10) (lN (p2 10))) 16) (lN es.length))) rfl ?_
              refine g_lstore_n C dX6_digest_114 rfl (by decide) (lv' := [(1, .long (dg1 (dgB cs (dg1 (dgQ p2 al 367 10) (lN (p2 10))) 16) (lN es.length))), (3, .int (nI 16)), (0, .ref n0)]) rfl ?_
              refine g_iconst C dX6_digest_115 (v := (nI 0)) (by decide) ?_
              refine g_istore_n C dX6_digest_116 rfl (by decide) (lv' := [(3, .int (nI 0)), (1, .long (dg1 (dgB cs (dg1 (dgQ p2 al 367 10) (lN (p2 10))) 16) (lN es.length))), (0, .ref n0)]) rfl ?_
              have L117 : ∀ (n9 : Nat) (i : Nat), es.length - i < n9 → (i ≤ es.length) → gG (g_IU A D s) p l e rm_t_X6_digest s m args below meth c Q 5 0 0 117 [(3, .int (nI i)), (1, .long (dgE es (dg1 (dgB cs (dg1 (dgQ p2 al 367 10) (lN (p2 10))) 16) (lN es.length)) i)), (0, .ref n0)] [] [(n0, .inr (5, [.int (nI 0), .ref np, .ref na, .int (nI (p2 10)), .ref nc, .int (nI es.length), .ref nf, .ref nq, .ref no, .ref nx, .ref ny, .ref nl, .ref nh, .ref nb, .ref nw, .int (nI nv), .ref nt, .int (nI tl), .int av, .int wr, .long rs])), (np, .inl (ty.1, 10, .inl (zN p2))), (na, .inl (ty.2.2, 10, .inl (zB al))), (nc, .inl (ty.2.2, 16, .inl (zB cs))), (nf, .inl (ty.2.1, 2000, .inr (.inl fM))), (nq, .inl (ty.1, 2000, .inl qM)), (no, .inl (ty.1, 2000, .inl oM)), (nx, .inl (ty.1, 2000, .inl aM)), (ny, .inl (ty.1, 2000, .inl bM)), (nw, .inl (ty.1, 400, .inl (zN pb)))] := by
                intro n9
                induction n9 with
                | zero => intro i hn; exact absurd hn (Nat.not_lt_zero _)
                | succ n9 ih117 =>
                  intro i hn117 hi
                  refine g_iload_n C dX6_digest_117 0 rfl rfl ?_
                  refine g_aload_n C dX6_digest_118 2 rfl rfl ?_
                  refine g_get C 0 rfl rfl 5 (by decide) (fun _ h => (List.mem_cons_of_mem _ (List.mem_append_right _ h))) 8 rfl rfl rfl dX6_digest_119 ?_
                  refine g_icmp_geN C dX6_digest_122 (tgt := 174) (by decide) (by omega) (by omega) (fun h122 => ?_) (fun h122 => ?_)
                  · skip
                    obtain rfl : i = es.length := by omega
                    refine g_lload_n C dX6_digest_174 1 rfl rfl ?_
                    refine g_ldc2 C (v := (31)) 3 rfl dX6_digest_175 ?_
                    refine g_lmul C dX6_digest_178 (v := ((dgE es (dg1 (dgB cs (dg1 (dgQ p2 al 367 10) (lN (p2 10))) 16) (lN es.length)) es.length) * (31))) rfl ?_
                    refine g_aload_n C dX6_digest_179 2 rfl rfl ?_
                    refine g_get C 0 rfl rfl 15 (by decide) (fun _ h => (List.mem_cons_of_mem _ (List.mem_append_right _ h))) 10 rfl rfl rfl dX6_digest_180 ?_
                    refine g_i2l C dX6_digest_183 (v := (lN nv)) (nI_l (by omega)) ?_
                    refine g_ladd C dX6_digest_184 (v := (dg1 (dgE es (dg1 (dgB cs (dg1 (dgQ p2 al 367 10) (lN (p2 10))) 16) (lN es.length)) es.length) (lN nv))) rfl ?_
                    refine g_lstore_n C dX6_digest_185 rfl (by decide) (lv' := [(1, .long (dg1 (dgE es (dg1 (dgB cs (dg1 (dgQ p2 al 367 10) (lN (p2 10))) 16) (lN es.length)) es.length) (lN nv))), (3, .int (nI es.length)), (0, .ref n0)]) rfl ?_
                    refine g_iconst C dX6_digest_186 (v := (nI 0)) (by decide) ?_
                    refine g_istore_n C dX6_digest_187 rfl (by decide) (lv' := [(3, .int (nI 0)), (1, .long (dg1 (dgE es (dg1 (dgB cs (dg1 (dgQ p2 al 367 10) (lN (p2 10))) 16) (lN es.length)) es.length) (lN nv))), (0, .ref n0)]) rfl ?_
                    have L188 : ∀ (n9 : Nat) (i : Nat), nv - i < n9 → (i ≤ nv) → gG (g_IU A D s) p l e rm_t_X6_digest s m args below meth c Q 5 0 0 188 [(3, .int (nI i)), (1, .long (dgP pb (dg1 (dgE es (dg1 (dgB cs (dg1 (dgQ p2 al 367 10) (lN (p2 10))) 16) (lN es.length)) es.length) (lN nv)) i)), (0, .ref n0)] [] [(n0, .inr (5, [.int (nI 0), .ref np, .ref na, .int (nI (p2 10)), .ref nc, .int (nI es.length), .ref nf, .ref nq, .ref no, .ref nx, .ref ny, .ref nl, .ref nh, .ref nb, .ref nw, .int (nI nv), .ref nt, .int (nI tl), .int av, .int wr, .long rs])), (np, .inl (ty.1, 10, .inl (zN p2))), (na, .inl (ty.2.2, 10, .inl (zB al))), (nc, .inl (ty.2.2, 16, .inl (zB cs))), (nf, .inl (ty.2.1, 2000, .inr (.inl fM))), (nq, .inl (ty.1, 2000, .inl qM)), (no, .inl (ty.1, 2000, .inl oM)), (nx, .inl (ty.1, 2000, .inl aM)), (ny, .inl (ty.1, 2000, .inl bM)), (nw, .inl (ty.1, 400, .inl (zN pb)))] := by
                      intro n9
                      induction n9 with
                      | zero => intro i hn; exact absurd hn (Nat.not_lt_zero _)
                      | succ n9 ih188 =>
                        intro i hn188 hi
                        refine g_iload_n C dX6_digest_188 0 rfl rfl ?_
                        refine g_aload_n C dX6_digest_189 2 rfl rfl ?_
                        refine g_get C 0 rfl rfl 15 (by decide) (fun _ h => (List.mem_cons_of_mem _ (List.mem_append_right _ h))) 10 rfl rfl rfl dX6_digest_190 ?_
                        refine g_icmp_geN C dX6_digest_193 (tgt := 216) (by decide) (by omega) (by omega) (fun h193 => ?_) (fun h193 => ?_)
                        · skip
                          obtain rfl : nv = i := by omega
                          refine g_lload_n C dX6_digest_216 1 rfl rfl ?_
                          refine g_ldc2 C (v := (31)) 3 rfl dX6_digest_217 ?_
                          refine g_lmul C dX6_digest_220 (v := ((dgP pb (dg1 (dgE es (dg1 (dgB cs (dg1 (dgQ p2 al 367 10) (lN (p2 10))) 16) (lN es.length)) es.length) (lN nv)) nv) * (31))) rfl ?_
                          refine g_aload_n C dX6_digest_221 2 rfl rfl ?_
                          refine g_get C 0 rfl rfl 17 (by decide) (fun _ h => (List.mem_cons_of_mem _ (List.mem_append_right _ h))) 12 rfl rfl rfl dX6_digest_222 ?_
                          refine g_i2l C dX6_digest_225 (v := (lN tl)) (nI_l (by omega)) ?_
                          refine g_ladd C dX6_digest_226 (v := (dg1 (dgP pb (dg1 (dgE es (dg1 (dgB cs (dg1 (dgQ p2 al 367 10) (lN (p2 10))) 16) (lN es.length)) es.length) (lN nv)) nv) (lN tl))) rfl ?_
                          refine g_ldc2 C (v := (31)) 3 rfl dX6_digest_227 ?_
                          refine g_lmul C dX6_digest_230 (v := ((dg1 (dgP pb (dg1 (dgE es (dg1 (dgB cs (dg1 (dgQ p2 al 367 10) (lN (p2 10))) 16) (lN es.length)) es.length) (lN nv)) nv) (lN tl)) * (31))) rfl ?_
                          refine g_aload_n C dX6_digest_231 2 rfl rfl ?_
                          refine g_get C 0 rfl rfl 20 (by decide) (fun _ h => (List.mem_cons_of_mem _ (List.mem_append_right _ h))) 13 rfl rfl rfl dX6_digest_232 ?_
                          refine g_ladd C dX6_digest_235 (v := (dg1 (dg1 (dgP pb (dg1 (dgE es (dg1 (dgB cs (dg1 (dgQ p2 al 367 10) (lN (p2 10))) 16) (lN es.length)) es.length) (lN nv)) nv) (lN tl)) rs)) rfl ?_
                          refine hR _ _ _ _ _ _ dX6_digest_236 ?_ (by omega) (by omega)
                          exact ⟨rfl, rfl⟩
                        · skip
                          refine g_lload_n C dX6_digest_196 1 rfl rfl ?_
                          refine g_ldc2 C (v := (31)) 3 rfl dX6_digest_197 ?_
                          refine g_lmul C dX6_digest_200 (v := ((dgP pb (dg1 (dgE es (dg1 (dgB cs (dg1 (dgQ p2 al 367 10) (lN (p2 10))) 16) (lN es.length)) es.length) (lN nv)) i) * (31))) rfl ?_
                          refine g_aload_n C dX6_digest_201 2 rfl rfl ?_
                          refine g_get C 0 rfl rfl 14 (by decide) (fun _ h => (List.mem_cons_of_mem _ (List.mem_append_right _ h))) 11 rfl rfl rfl dX6_digest_202 ?_
                          refine g_iload_n C dX6_digest_205 0 rfl rfl ?_
                          refine g_iald C (v := (nI (pb i))) 9 rfl (by omega) (by omega) rfl dX6_digest_206 ?_
                          refine g_i2l C dX6_digest_207 (v := (Int32.toInt64 (nI (pb i)))) rfl ?_
                          refine g_ladd C dX6_digest_208 (v := (dgP pb (dg1 (dgE es (dg1 (dgB cs (dg1 (dgQ p2 al 367 10) (lN (p2 10))) 16) (lN es.length)) es.length) (lN nv)) (i + 1))) rfl ?_
                          refine g_lstore_n C dX6_digest_209 rfl (by decide) (lv' := [(1, .long (dgP pb (dg1 (dgE es (dg1 (dgB cs (dg1 (dgQ p2 al 367 10) (lN (p2 10))) 16) (lN es.length)) es.length) (lN nv)) (i + 1))), (3, .int (nI i)), (0, .ref n0)]) rfl ?_
                          refine g_iinc C dX6_digest_210 1 rfl (v := (nI (i + 1))) (nI_1 i) (by decide) (lv' := [(3, .int (nI (i + 1))), (1, .long (dgP pb (dg1 (dgE es (dg1 (dgB cs (dg1 (dgQ p2 al 367 10) (lN (p2 10))) 16) (lN es.length)) es.length) (lN nv)) (i + 1))), (0, .ref n0)]) rfl ?_
                          refine g_goto C dX6_digest_213 (tgt := 188) (by decide) ?_
                          exact ih188 (i + 1) (by omega) (by omega)
                    exact L188 _ 0 (Nat.lt_succ_self _) (by omega)
                  · skip
                    have hc6 := (hwf i (by omega)).1
                    refine g_lload_n C dX6_digest_125 1 rfl rfl ?_
                    refine g_ldc2 C (v := (31)) 3 rfl dX6_digest_126 ?_
                    refine g_lmul C dX6_digest_129 (v := ((dgE es (dg1 (dgB cs (dg1 (dgQ p2 al 367 10) (lN (p2 10))) 16) (lN es.length)) i) * (31))) rfl ?_
                    refine g_aload_n C dX6_digest_130 2 rfl rfl ?_
                    refine g_get C 0 rfl rfl 6 (by decide) (fun _ h => (List.mem_cons_of_mem _ (List.mem_append_right _ h))) 9 rfl rfl rfl dX6_digest_131 ?_
                    refine g_iload_n C dX6_digest_134 0 rfl rfl ?_
                    refine g_lald C (v := (eF es i)) 4 rfl (by omega) (by omega) (hw.1 i (by omega)).1 dX6_digest_135 ?_
                    refine g_ladd C dX6_digest_136 (v := (dg1 (dgE es (dg1 (dgB cs (dg1 (dgQ p2 al 367 10) (lN (p2 10))) 16) (lN es.length)) i) (eF es i))) rfl ?_
                    refine g_lstore_n C dX6_digest_137 rfl (by decide) (lv' := [(1, .long (dg1 (dgE es (dg1 (dgB cs (dg1 (dgQ p2 al 367 10) (lN (p2 10))) 16) (lN es.length)) i) (eF es i))), (3, .int (nI i)), (0, .ref n0)]) rfl ?_
                    refine g_iconst C dX6_digest_138 (v := (nI 0)) (by decide) ?_
                    refine g_istore C dX6_digest_139 (by decide) (lv' := [(4, .int (nI 0)), (1, .long (dg1 (dgE es (dg1 (dgB cs (dg1 (dgQ p2 al 367 10) (lN (p2 10))) 16) (lN es.length)) i) (eF es i))), (3, .int (nI i)), (0, .ref n0)]) rfl ?_
                    have L141 : ∀ (n9 : Nat) (j : Nat), 4 - j < n9 → (j ≤ 4) → gG (g_IU A D s) p l e rm_t_X6_digest s m args below meth c Q 5 0 0 141 [(4, .int (nI j)), (3, .int (nI i)), (1, .long (dgT es i (dg1 (dgE es (dg1 (dgB cs (dg1 (dgQ p2 al 367 10) (lN (p2 10))) 16) (lN es.length)) i) (eF es i)) j)), (0, .ref n0)] [] [(n0, .inr (5, [.int (nI 0), .ref np, .ref na, .int (nI (p2 10)), .ref nc, .int (nI es.length), .ref nf, .ref nq, .ref no, .ref nx, .ref ny, .ref nl, .ref nh, .ref nb, .ref nw, .int (nI nv), .ref nt, .int (nI tl), .int av, .int wr, .long rs])), (np, .inl (ty.1, 10, .inl (zN p2))), (na, .inl (ty.2.2, 10, .inl (zB al))), (nc, .inl (ty.2.2, 16, .inl (zB cs))), (nf, .inl (ty.2.1, 2000, .inr (.inl fM))), (nq, .inl (ty.1, 2000, .inl qM)), (no, .inl (ty.1, 2000, .inl oM)), (nx, .inl (ty.1, 2000, .inl aM)), (ny, .inl (ty.1, 2000, .inl bM)), (nw, .inl (ty.1, 400, .inl (zN pb)))] := by
                      intro n9
                      induction n9 with
                      | zero => intro j hn; exact absurd hn (Nat.not_lt_zero _)
                      | succ n9 ih141 =>
                        intro j hn141 hj
                        refine g_iload C dX6_digest_141 0 rfl ?_
                        refine g_iconst C dX6_digest_143 (v := (nI 4)) (by decide) ?_
                        refine g_icmp_geN C dX6_digest_144 (tgt := 168) (by decide) (by omega) (by omega) (fun h144 => ?_) (fun h144 => ?_)
                        · skip
                          obtain rfl : j = 4 := by omega
                          rw [dgT_4 (by omega)]
                          refine g_iinc C dX6_digest_168 1 rfl (v := (nI (i + 1))) (nI_1 i) (by decide) (lv' := [(3, .int (nI (i + 1))), (4, .int (nI 4)), (1, .long (dgE es (dg1 (dgB cs (dg1 (dgQ p2 al 367 10) (lN (p2 10))) 16) (lN es.length)) (i + 1))), (0, .ref n0)]) rfl ?_
                          refine g_goto C dX6_digest_171 (tgt := 117) (by decide) ?_
                          refine g_lv [0, 2, 3] rfl ?_
                          exact ih117 (i + 1) (by omega) (by omega)
                        · skip
                          refine g_lload_n C dX6_digest_147 2 rfl rfl ?_
                          refine g_ldc2 C (v := (31)) 3 rfl dX6_digest_148 ?_
                          refine g_lmul C dX6_digest_151 (v := ((dgT es i (dg1 (dgE es (dg1 (dgB cs (dg1 (dgQ p2 al 367 10) (lN (p2 10))) 16) (lN es.length)) i) (eF es i)) j) * (31))) rfl ?_
                          refine g_aload_n C dX6_digest_152 3 rfl rfl ?_
                          refine g_iload_n C dX6_digest_153 1 rfl rfl ?_
                          refine g_iload C dX6_digest_154 0 rfl ?_
                          refine g_callPV C ⟨g_X0_ok, trivial⟩ (t_X6_told l D ty n0 np na nc nf nq no nx ny nl nh nb nw nt (nI 0) (nI (p2 10)) (nI nv) (nI tl) av wr rs es fM qM oM aM bM lM hM hw i j (by omega) (by omega)) rfl gX6_digest_X6_told 2 (by decide +kernel) rfl ⟨rfl, rfl⟩ ⟨Nat.le_of_ble_eq_true rfl, Nat.le_of_ble_eq_true rfl⟩ (rest := [.long ((dgT es i (dg1 (dgE es (dg1 (dgB cs (dg1 (dgQ p2 al 367 10) (lN (p2 10))) 16) (lN es.length)) i) (eF es i)) j) * (31))]) (q0 := 0) rfl rfl [0, 5, 6, 7, 8] rfl (Nat.le_of_ble_eq_true rfl) dX6_digest_156 ⟨Nat.le_of_ble_eq_true rfl, Nat.le_of_ble_eq_true rfl⟩ rfl (g_ki (fun r hr => ?_))
                          subst hr
                          refine g_i2l C dX6_digest_159 (v := (Int32.toInt64 (tlV es i j))) rfl ?_
                          refine g_ladd C dX6_digest_160 (v := (dgT es i (dg1 (dgE es (dg1 (dgB cs (dg1 (dgQ p2 al 367 10) (lN (p2 10))) 16) (lN es.length)) i) (eF es i)) (j + 1))) rfl ?_
                          refine g_lstore_n C dX6_digest_161 rfl (by decide) (lv' := [(1, .long (dgT es i (dg1 (dgE es (dg1 (dgB cs (dg1 (dgQ p2 al 367 10) (lN (p2 10))) 16) (lN es.length)) i) (eF es i)) (j + 1))), (4, .int (nI j)), (3, .int (nI i)), (0, .ref n0)]) rfl ?_
                          refine g_iinc C dX6_digest_162 1 rfl (v := (nI (j + 1))) (nI_1 j) (by decide) (lv' := [(4, .int (nI (j + 1))), (1, .long (dgT es i (dg1 (dgE es (dg1 (dgB cs (dg1 (dgQ p2 al 367 10) (lN (p2 10))) 16) (lN es.length)) i) (eF es i)) (j + 1))), (3, .int (nI i)), (0, .ref n0)]) rfl ?_
                          refine g_goto C dX6_digest_165 (tgt := 141) (by decide) ?_
                          refine g_lv [0, 2, 1, 3] rfl ?_
                          exact ih141 (j + 1) (by omega) (by omega)
                    refine g_lv [0, 2, 1, 3] rfl ?_
                    exact L141 _ 0 (Nat.lt_succ_self _) (by omega)
              exact L117 _ 0 (Nat.lt_succ_self _) (by omega)
            · skip
              have hbt := bt_lt (cs i)
              refine g_lload_n C dX6_digest_76 1 rfl rfl ?_
              refine g_ldc2 C (v := (31)) 3 rfl dX6_digest_77 ?_
              refine g_lmul C dX6_digest_80 (v := ((dgB cs (dg1 (dgQ p2 al 367 10) (lN (p2 10))) i) * (31))) rfl ?_
              refine g_aload_n C dX6_digest_81 2 rfl rfl ?_
              refine g_get C 0 rfl rfl 4 (by decide) (fun _ h => (List.mem_cons_of_mem _ (List.mem_append_right _ h))) 7 rfl rfl rfl dX6_digest_82 ?_
              refine g_iload_n C dX6_digest_85 0 rfl rfl ?_
              refine g_zald C (v := (nI ((cs i).toNat))) 3 rfl (by omega) (by omega) rfl dX6_digest_86 ?_
              refine g_if_eqN C dX6_digest_87 (tgt := 94) (by decide) (by omega) (fun h87 => ?_) (fun h87 => ?_)
              · skip
                refine g_lconst C dX6_digest_94 (v := (lN (cs i).toNat)) (l0_f h87) ?_
                refine g_ladd C dX6_digest_95 (v := (dgB cs (dg1 (dgQ p2 al 367 10) (lN (p2 10))) (i + 1))) rfl ?_
                refine g_lstore_n C dX6_digest_96 rfl (by decide) (lv' := [(1, .long (dgB cs (dg1 (dgQ p2 al 367 10) (lN (p2 10))) (i + 1))), (3, .int (nI i)), (0, .ref n0)]) rfl ?_
                refine g_iinc C dX6_digest_97 1 rfl (v := (nI (i + 1))) (nI_1 i) (by decide) (lv' := [(3, .int (nI (i + 1))), (1, .long (dgB cs (dg1 (dgQ p2 al 367 10) (lN (p2 10))) (i + 1))), (0, .ref n0)]) rfl ?_
                refine g_goto C dX6_digest_100 (tgt := 70) (by decide) ?_
                exact ih70 (i + 1) (by omega) (by omega)
              · skip
                refine g_lconst C dX6_digest_90 (v := (lN (cs i).toNat)) (l1_t h87) ?_
                refine g_goto C dX6_digest_91 (tgt := 95) (by decide) ?_
                refine g_ladd C dX6_digest_95 (v := (dgB cs (dg1 (dgQ p2 al 367 10) (lN (p2 10))) (i + 1))) rfl ?_
                refine g_lstore_n C dX6_digest_96 rfl (by decide) (lv' := [(1, .long (dgB cs (dg1 (dgQ p2 al 367 10) (lN (p2 10))) (i + 1))), (3, .int (nI i)), (0, .ref n0)]) rfl ?_
                refine g_iinc C dX6_digest_97 1 rfl (v := (nI (i + 1))) (nI_1 i) (by decide) (lv' := [(3, .int (nI (i + 1))), (1, .long (dgB cs (dg1 (dgQ p2 al 367 10) (lN (p2 10))) (i + 1))), (0, .ref n0)]) rfl ?_
                refine g_goto C dX6_digest_100 (tgt := 70) (by decide) ?_
                exact ih70 (i + 1) (by omega) (by omega)
        exact L70 _ 0 (Nat.lt_succ_self _) (by omega)
      · skip
        have hpi := hp.1 i (by omega)
        have hbt := bt_lt (al i)
        refine g_lload_n C dX6_digest_17 1 rfl rfl ?_
        refine g_ldc2 C (v := (31)) 3 rfl dX6_digest_18 ?_
        refine g_lmul C dX6_digest_21 (v := ((dgQ p2 al 367 i) * (31))) rfl ?_
        refine g_aload_n C dX6_digest_22 2 rfl rfl ?_
        refine g_get C 0 rfl rfl 1 (by decide) (fun _ h => (List.mem_cons_of_mem _ (List.mem_append_right _ h))) 4 rfl rfl rfl dX6_digest_23 ?_
        refine g_iload_n C dX6_digest_26 0 rfl rfl ?_
        refine g_iald C (v := (nI (p2 i))) 1 rfl (by omega) (by omega) rfl dX6_digest_27 ?_
        refine g_i2l C dX6_digest_28 (v := (lN (p2 i))) (nI_l (by omega)) ?_
        refine g_ladd C dX6_digest_29 (v := (dg1 (dgQ p2 al 367 i) (lN (p2 i)))) rfl ?_
        refine g_ldc2 C (v := (31)) 3 rfl dX6_digest_30 ?_
        refine g_lmul C dX6_digest_33 (v := ((dg1 (dgQ p2 al 367 i) (lN (p2 i))) * (31))) rfl ?_
        refine g_aload_n C dX6_digest_34 2 rfl rfl ?_
        refine g_get C 0 rfl rfl 2 (by decide) (fun _ h => (List.mem_cons_of_mem _ (List.mem_append_right _ h))) 5 rfl rfl rfl dX6_digest_35 ?_
        refine g_iload_n C dX6_digest_38 0 rfl rfl ?_
        refine g_zald C (v := (nI ((al i).toNat))) 2 rfl (by omega) (by omega) rfl dX6_digest_39 ?_
        refine g_if_eqN C dX6_digest_40 (tgt := 47) (by decide) (by omega) (fun h40 => ?_) (fun h40 => ?_)
        · skip
          refine g_lconst C dX6_digest_47 (v := (lN (al i).toNat)) (l0_f h40) ?_
          refine g_ladd C dX6_digest_48 (v := (dgQ p2 al 367 (i + 1))) rfl ?_
          refine g_lstore_n C dX6_digest_49 rfl (by decide) (lv' := [(1, .long (dgQ p2 al 367 (i + 1))), (3, .int (nI i)), (0, .ref n0)]) rfl ?_
          refine g_iinc C dX6_digest_50 1 rfl (v := (nI (i + 1))) (nI_1 i) (by decide) (lv' := [(3, .int (nI (i + 1))), (1, .long (dgQ p2 al 367 (i + 1))), (0, .ref n0)]) rfl ?_
          refine g_goto C dX6_digest_53 (tgt := 11) (by decide) ?_
          exact ih11 (i + 1) (by omega) (by omega)
        · skip
          refine g_lconst C dX6_digest_43 (v := (lN (al i).toNat)) (l1_t h40) ?_
          refine g_goto C dX6_digest_44 (tgt := 48) (by decide) ?_
          refine g_ladd C dX6_digest_48 (v := (dgQ p2 al 367 (i + 1))) rfl ?_
          refine g_lstore_n C dX6_digest_49 rfl (by decide) (lv' := [(1, .long (dgQ p2 al 367 (i + 1))), (3, .int (nI i)), (0, .ref n0)]) rfl ?_
          refine g_iinc C dX6_digest_50 1 rfl (v := (nI (i + 1))) (nI_1 i) (by decide) (lv' := [(3, .int (nI (i + 1))), (1, .long (dgQ p2 al 367 (i + 1))), (0, .ref n0)]) rfl ?_
          refine g_goto C dX6_digest_53 (tgt := 11) (by decide) ?_
          exact ih11 (i + 1) (by omega) (by omega)
  exact L11 _ 0 (Nat.lt_succ_self _) (by omega)


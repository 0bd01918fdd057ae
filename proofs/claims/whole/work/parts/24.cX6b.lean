abbrev rm_t_X6_entryOf : Room := ({ frames := 1, cells := 0, slots := 0, locals := 21 } : Room)
set_option maxHeartbeats 4000000 in
set_option maxRecDepth 100000 in
theorem t_X6_entryOf (l : Launch) (D : va_G) (ty : g_T3) (n0 np na nc nf nq no nx ny nl nh nb nw nt : Nat) (th cp pl tl av wr : Int32) (rs : Int64) (es : List Ent) (fM : Nat → Int64) (qM oM aM bM lM hM : Nat → Int32) (hw : modOk es fM qM oM aM bM lM hM) (f : Int64) : g_P l yX6_entryOf wsX6_entryOf rm_t_X6_entryOf D ty g_X0 [.ref n0, .long f] [(n0, .inr (5, [.int th, .ref np, .ref na, .int cp, .ref nc, .int (nI es.length), .ref nf, .ref nq, .ref no, .ref nx, .ref ny, .ref nl, .ref nh, .ref nb, .ref nw, .int pl, .ref nt, .int tl, .int av, .int wr, .long rs])), (nf, .inl (ty.2.1, 2000, .inr (.inl fM))), (nl, .inl (ty.1, 1024, .inl lM)), (nh, .inl (ty.1, 2000, .inl hM))] (g_pi (fun r => r = nI (fnN es f es.length) - 1)) := by
  refine g_ofPi (cc := cX6_entryOf) (nL := 4) (own := RX6) (by decide) rfl rfl g_X0_ok (Nat.le_of_ble_eq_true rfl) ?_
  intro p e s m args below meth c Q C hX hR
  refine g_lv (lv' := [(0, .ref n0), (1, .long f)]) [0, 1] rfl ?_
  have hl0 := hw.2.2.2.2
  refine g_aload_n C dX6_entryOf_0 0 rfl rfl ?_
  refine g_get C 0 rfl rfl 11 (by decide) (fun _ h => (List.mem_cons_of_mem _ (List.mem_append_right _ h))) 1 rfl rfl rfl dX6_entryOf_1 ?_
  refine g_lload_n C dX6_entryOf_4 1 rfl rfl ?_
  refine g_callPS C ⟨g_X0_ok, trivial⟩ (t_X6_chain l D ty f) rfl gX6_entryOf_X6_chain 1 (by decide +kernel) rfl ⟨rfl, rfl⟩ ⟨Nat.le_of_ble_eq_true rfl, Nat.le_of_ble_eq_true rfl⟩ (rest := [.ref nl]) [] rfl (Nat.le_of_ble_eq_true rfl) dX6_entryOf_5 ⟨Nat.le_of_ble_eq_true rfl, Nat.le_of_ble_eq_true rfl⟩ rfl (g_ki (fun r hr => ?_))
  subst hr
  have := chn_lt f
  refine g_iald C (v := (nI (laN es (chn f) es.length))) 2 rfl (by omega) (by omega) (hw.2.2.1.1 _ (chn_lt f)) dX6_entryOf_8 ?_
  refine g_iconst C dX6_entryOf_9 (v := (nI 1)) (by decide) ?_
  refine g_isub C dX6_entryOf_10 (v := (nI (laN es (chn f) es.length) - nI 1)) rfl ?_
  refine g_istore_n C dX6_entryOf_11 rfl (by decide) (lv' := [(3, .int (nI (laN es (chn f) es.length) - nI 1)), (0, .ref n0), (1, .long f)]) rfl ?_
  have L12 : ∀ (n9 : Nat) (mq : Nat), mq < n9 → (mq ≤ es.length) → (fnN es f es.length = fnN es f mq) → (0 < mq → chn (eF es (mq - 1)) = chn f) → gG (g_IP D s [(n0, .inr (5, [.int th, .ref np, .ref na, .int cp, .ref nc, .int (nI es.length), .ref nf, .ref nq, .ref no, .ref nx, .ref ny, .ref nl, .ref nh, .ref nb, .ref nw, .int pl, .ref nt, .int tl, .int av, .int wr, .long rs])), (nf, .inl (ty.2.1, 2000, .inr (.inl fM))), (nl, .inl (ty.1, 1024, .inl lM)), (nh, .inl (ty.1, 2000, .inl hM))]) p l e rm_t_X6_entryOf s m args below meth c Q 4 0 0 12 [(3, .int (nI mq - nI 1)), (0, .ref n0), (1, .long f)] [] [(n0, .inr (5, [.int th, .ref np, .ref na, .int cp, .ref nc, .int (nI es.length), .ref nf, .ref nq, .ref no, .ref nx, .ref ny, .ref nl, .ref nh, .ref nb, .ref nw, .int pl, .ref nt, .int tl, .int av, .int wr, .long rs])), (nf, .inl (ty.2.1, 2000, .inr (.inl fM))), (nl, .inl (ty.1, 1024, .inl lM)), (nh, .inl (ty.1, 2000, .inl hM))] := by
    intro n9
    induction n9 with
    | zero => intro mq hn; exact absurd hn (Nat.not_lt_zero _)
    | succ n9 ih12 =>
      intro mq hn12 hm hf hch
      refine g_iload_n C dX6_entryOf_12 0 rfl rfl ?_
      refine g_if_lt C dX6_entryOf_13 (tgt := 39) (by decide) (fun h13 => ?_) (fun h13 => ?_)
      · skip
        rw [m1_int (by omega)] at h13
        have hm0 : mq = 0 := by omega
        have hE : nI mq - nI 1 = nI (fnN es f es.length) - 1 := by rw [hf, hm0]; rfl
        refine g_iload_n C dX6_entryOf_39 0 rfl rfl ?_
        exact hR _ _ _ _ dX6_entryOf_40 (hE)
      · skip
        rw [m1_int (by omega)] at h13
        rw [pk_sub (show 1 ≤ mq by omega)]
        refine g_aload_n C dX6_entryOf_16 1 rfl rfl ?_
        refine g_get C 0 rfl rfl 6 (by decide) (fun _ h => (List.mem_cons_of_mem _ (List.mem_append_right _ h))) 2 rfl rfl rfl dX6_entryOf_17 ?_
        refine g_iload_n C dX6_entryOf_20 0 rfl rfl ?_
        refine g_lald C (v := (eF es (mq - 1))) 1 rfl (by omega) (by omega) (hw.1 _ (by omega)).1 dX6_entryOf_21 ?_
        refine g_lload_n C dX6_entryOf_22 2 rfl rfl ?_
        refine g_lcmp C dX6_entryOf_23 ?_
        refine g_if_eq C dX6_entryOf_24 (tgt := 39) (by decide) (fun h24 => ?_) (fun h24 => ?_)
        · skip
          have hE : nI (mq - 1) = nI (fnN es f es.length) - 1 := by rw [hf, fnN_h (by omega) (lg_0 h24)]; exact (pk_sub (show 1 ≤ mq by omega)).symm
          refine g_iload_n C dX6_entryOf_39 0 rfl rfl ?_
          exact hR _ _ _ _ dX6_entryOf_40 (hE)
        · skip
          have hle := laN_le es (chn f) (mq - 1)
          refine g_aload_n C dX6_entryOf_27 1 rfl rfl ?_
          refine g_get C 0 rfl rfl 12 (by decide) (fun _ h => (List.mem_cons_of_mem _ (List.mem_append_right _ h))) 3 rfl rfl rfl dX6_entryOf_28 ?_
          refine g_iload_n C dX6_entryOf_31 0 rfl rfl ?_
          refine g_iald C (v := (nI (laN es (chn f) (mq - 1)))) 3 rfl (by omega) (by omega) ((hw.2.2.1.2 _ (by omega)).trans (by rw [hch (by omega)])) dX6_entryOf_32 ?_
          refine g_iconst C dX6_entryOf_33 (v := (nI 1)) (by decide) ?_
          refine g_isub C dX6_entryOf_34 (v := (nI (laN es (chn f) (mq - 1)) - nI 1)) rfl ?_
          refine g_istore_n C dX6_entryOf_35 rfl (by decide) (lv' := [(3, .int (nI (laN es (chn f) (mq - 1)) - nI 1)), (0, .ref n0), (1, .long f)]) rfl ?_
          refine g_goto C dX6_entryOf_36 (tgt := 12) (by decide) ?_
          exact ih12 (laN es (chn f) (mq - 1)) (by omega) (Nat.le_trans (laN_le _ _ _) (by omega)) (by rw [hf, fnN_s (by omega) (lg_1 h24)]; exact (fn_la _).symm) laN_in
  exact L12 _ (laN es (chn f) es.length) (Nat.lt_succ_self _) (laN_le _ _ _) (fn_la _).symm laN_in

abbrev rm_t_X6_add : Room := ({ frames := 2, cells := 0, slots := 0, locals := 44 } : Room)
set_option maxHeartbeats 4000000 in
set_option maxRecDepth 100000 in
theorem t_X6_add (l : Launch) (D : va_G) (ty : g_T3) (n0 np na nc nf nq no nx ny nl nh nb nw nt : Nat) (th cp pl tl av wr : Int32) (rs : Int64) (es : List Ent) (fM : Nat → Int64) (qM oM aM bM lM hM : Nat → Int32) (hw : modOk es fM qM oM aM bM lM hM) (f : Int64) (cv : Nat) (o a b : Int32) : g_U l yX6_add wsX6_add rm_t_X6_add D ty g_X0 [.ref n0, .long f, .int (nI cv), .int o, .int a, .int b] [(n0, .inr (5, [.int th, .ref np, .ref na, .int cp, .ref nc, .int (nI es.length), .ref nf, .ref nq, .ref no, .ref nx, .ref ny, .ref nl, .ref nh, .ref nb, .ref nw, .int pl, .ref nt, .int tl, .int av, .int wr, .long rs])), (nf, .inl (ty.2.1, 2000, .inr (.inl fM))), (nq, .inl (ty.1, 2000, .inl qM)), (no, .inl (ty.1, 2000, .inl oM)), (nx, .inl (ty.1, 2000, .inl aM)), (ny, .inl (ty.1, 2000, .inl bM)), (nl, .inl (ty.1, 1024, .inl lM)), (nh, .inl (ty.1, 2000, .inl hM))] 0 0 (g_uv (fun w => ∃ (fM2 : Nat → Int64) (qM2 oM2 aM2 bM2 lM2 hM2 : Nat → Int32), modOk (addE f cv o a b es) fM2 qM2 oM2 aM2 bM2 lM2 hM2 ∧ w = [(n0, .inr (5, [.int th, .ref np, .ref na, .int cp, .ref nc, .int (nI ((addE f cv o a b es).length)), .ref nf, .ref nq, .ref no, .ref nx, .ref ny, .ref nl, .ref nh, .ref nb, .ref nw, .int pl, .ref nt, .int tl, .int av, .int wr, .long rs])), (nf, .inl (ty.2.1, 2000, .inr (.inl fM2))), (nq, .inl (ty.1, 2000, .inl qM2)), (no, .inl (ty.1, 2000, .inl oM2)), (nx, .inl (ty.1, 2000, .inl aM2)), (ny, .inl (ty.1, 2000, .inl bM2)), (nl, .inl (ty.1, 1024, .inl lM2)), (nh, .inl (ty.1, 2000, .inl hM2))])) := by
  refine g_ofUv (cc := cX6_add) (nL := 7) (own := RX6) (by decide) rfl rfl g_X0_ok (Nat.le_of_ble_eq_true rfl) ?_
  intro p e s m args below meth c Q A C hA hX hin hR
  refine g_lv (lv' := [(0, .ref n0), (1, .long f), (3, .int (nI cv)), (4, .int o), (5, .int a), (6, .int b)]) [0, 1, 2, 3, 4, 5] rfl ?_
  have hl0 := hw.2.2.2.2
  have hfl := fnN_le es f es.length
  refine g_aload_n C dX6_add_0 0 rfl rfl ?_
  refine g_get C 0 rfl rfl 5 (by decide) (fun _ h => (List.mem_cons_of_mem _ (List.mem_append_right _ h))) 1 rfl rfl rfl dX6_add_1 ?_
  refine g_sipush C dX6_add_4 (v := (nI 2000)) (by decide) ?_
  refine g_icmp_eqN C dX6_add_7 (tgt := 18) (by decide) (by omega) (by omega) (fun h7 => ?_) (fun h7 => ?_)
  · skip
    have hE : addE f cv o a b es = es := addE_old (Or.inl h7)
    refine hR _ _ _ _ _ dX6_add_18 ?_ (by omega) (by omega)
    rw [hE]; exact ⟨_, _, _, _, _, _, _, hw, rfl⟩
  · skip
    refine g_aload_n C dX6_add_10 0 rfl rfl ?_
    refine g_lload_n C dX6_add_11 1 rfl rfl ?_
    refine g_callPV C ⟨g_X0_ok, trivial⟩ (t_X6_entryOf l D ty n0 np na nc nf nq no nx ny nl nh nb nw nt th cp pl tl av wr rs es fM qM oM aM bM lM hM hw f) rfl gX6_add_X6_entryOf 1 (by decide +kernel) rfl ⟨rfl, rfl⟩ ⟨Nat.le_of_ble_eq_true rfl, Nat.le_of_ble_eq_true rfl⟩ (rest := []) (q0 := 0) rfl rfl [0, 1, 6, 7] rfl (Nat.le_of_ble_eq_true rfl) dX6_add_12 ⟨Nat.le_of_ble_eq_true rfl, Nat.le_of_ble_eq_true rfl⟩ rfl (g_ki (fun r hr => ?_))
    subst hr
    refine g_if_lt C dX6_add_15 (tgt := 19) (by decide) (fun h15 => ?_) (fun h15 => ?_)
    · skip
      have hq : fnN es f es.length = 0 := by have h9 := m1_int (m := fnN es f es.length) (by omega); have h10 : (nI (fnN es f es.length) - 1).toInt < 0 := h15; have h11 : (nI (fnN es f es.length) - nI 1).toInt < 0 := h10; omega
      have hout : ¬ inE es f := fun q => fn_in.mpr q hq
      have hE : addE f cv o a b es = es ++ [(f, cv, o, a, b)] := addE_new h7 hout
      refine g_aload_n C dX6_add_19 0 rfl rfl ?_
      refine g_get C 0 rfl rfl 6 (by decide) (fun _ h => (List.mem_cons_of_mem _ (List.mem_append_right _ h))) 2 rfl rfl rfl dX6_add_20 ?_
      refine g_aload_n C dX6_add_23 0 rfl rfl ?_
      refine g_get C 0 rfl rfl 5 (by decide) (fun _ h => (List.mem_cons_of_mem _ (List.mem_append_right _ h))) 1 rfl rfl rfl dX6_add_24 ?_
      refine g_lload_n C dX6_add_27 1 rfl rfl ?_
      refine g_last C 1 rfl (by omega) (by omega) (f' := vp_updL fM es.length f) rfl (ws' := [(n0, .inr (5, [.int th, .ref np, .ref na, .int cp, .ref nc, .int (nI es.length), .ref nf, .ref nq, .ref no, .ref nx, .ref ny, .ref nl, .ref nh, .ref nb, .ref nw, .int pl, .ref nt, .int tl, .int av, .int wr, .long rs])), (nf, .inl (ty.2.1, 2000, .inr (.inl (vp_updL fM es.length f)))), (nq, .inl (ty.1, 2000, .inl qM)), (no, .inl (ty.1, 2000, .inl oM)), (nx, .inl (ty.1, 2000, .inl aM)), (ny, .inl (ty.1, 2000, .inl bM)), (nl, .inl (ty.1, 1024, .inl lM)), (nh, .inl (ty.1, 2000, .inl hM))]) rfl dX6_add_28 ?_
      refine g_aload_n C dX6_add_29 0 rfl rfl ?_
      refine g_get C 0 rfl rfl 7 (by decide) (fun _ h => (List.mem_cons_of_mem _ (List.mem_append_right _ h))) 3 rfl rfl rfl dX6_add_30 ?_
      refine g_aload_n C dX6_add_33 0 rfl rfl ?_
      refine g_get C 0 rfl rfl 5 (by decide) (fun _ h => (List.mem_cons_of_mem _ (List.mem_append_right _ h))) 1 rfl rfl rfl dX6_add_34 ?_
      refine g_iload_n C dX6_add_37 2 rfl rfl ?_
      refine g_iast C 2 rfl (by omega) (by omega) (f' := upd qM es.length (nI cv)) rfl (ws' := [(n0, .inr (5, [.int th, .ref np, .ref na, .int cp, .ref nc, .int (nI es.length), .ref nf, .ref nq, .ref no, .ref nx, .ref ny, .ref nl, .ref nh, .ref nb, .ref nw, .int pl, .ref nt, .int tl, .int av, .int wr, .long rs])), (nf, .inl (ty.2.1, 2000, .inr (.inl (vp_updL fM es.length f)))), (nq, .inl (ty.1, 2000, .inl (upd qM es.length (nI cv)))), (no, .inl (ty.1, 2000, .inl oM)), (nx, .inl (ty.1, 2000, .inl aM)), (ny, .inl (ty.1, 2000, .inl bM)), (nl, .inl (ty.1, 1024, .inl lM)), (nh, .inl (ty.1, 2000, .inl hM))]) rfl dX6_add_38 ?_
      refine g_aload_n C dX6_add_39 0 rfl rfl ?_
      refine g_get C 0 rfl rfl 8 (by decide) (fun _ h => (List.mem_cons_of_mem _ (List.mem_append_right _ h))) 4 rfl rfl rfl dX6_add_40 ?_
      refine g_aload_n C dX6_add_43 0 rfl rfl ?_
      refine g_get C 0 rfl rfl 5 (by decide) (fun _ h => (List.mem_cons_of_mem _ (List.mem_append_right _ h))) 1 rfl rfl rfl dX6_add_44 ?_
      refine g_iload C dX6_add_47 3 rfl ?_
      refine g_iast C 3 rfl (by omega) (by omega) (f' := upd oM es.length o) rfl (ws' := [(n0, .inr (5, [.int th, .ref np, .ref na, .int cp, .ref nc, .int (nI es.length), .ref nf, .ref nq, .ref no, .ref nx, .ref ny, .ref nl, .ref nh, .ref nb, .ref nw, .int pl, .ref nt, .int tl, .int av, .int wr, .long rs])), (nf, .inl (ty.2.1, 2000, .inr (.inl (vp_updL fM es.length f)))), (nq, .inl (ty.1, 2000, .inl (upd qM es.length (nI cv)))), (no, .inl (ty.1, 2000, .inl (upd oM es.length o))), (nx, .inl (ty.1, 2000, .inl aM)), (ny, .inl (ty.1, 2000, .inl bM)), (nl, .inl (ty.1, 1024, .inl lM)), (nh, .inl (ty.1, 2000, .inl hM))]) rfl dX6_add_49 ?_
      refine g_aload_n C dX6_add_50 0 rfl rfl ?_
      refine g_get C 0 rfl rfl 9 (by decide) (fun _ h => (List.mem_cons_of_mem _ (List.mem_append_right _ h))) 5 rfl rfl rfl dX6_add_51 ?_
      refine g_aload_n C dX6_add_54 0 rfl rfl ?_
      refine g_get C 0 rfl rfl 5 (by decide) (fun _ h => (List.mem_cons_of_mem _ (List.mem_append_right _ h))) 1 rfl rfl rfl dX6_add_55 ?_
      refine g_iload C dX6_add_58 4 rfl ?_
      refine g_iast C 4 rfl (by omega) (by omega) (f' := upd aM es.length a) rfl (ws' := [(n0, .inr (5, [.int th, .ref np, .ref na, .int cp, .ref nc, .int (nI es.length), .ref nf, .ref nq, .ref no, .ref nx, .ref ny, .ref nl, .ref nh, .ref nb, .ref nw, .int pl, .ref nt, .int tl, .int av, .int wr, .long rs])), (nf, .inl (ty.2.1, 2000, .inr (.inl (vp_updL fM es.length f)))), (nq, .inl (ty.1, 2000, .inl (upd qM es.length (nI cv)))), (no, .inl (ty.1, 2000, .inl (upd oM es.length o))), (nx, .inl (ty.1, 2000, .inl (upd aM es.length a))), (ny, .inl (ty.1, 2000, .inl bM)), (nl, .inl (ty.1, 1024, .inl lM)), (nh, .inl (ty.1, 2000, .inl hM))]) rfl dX6_add_60 ?_
      refine g_aload_n C dX6_add_61 0 rfl rfl ?_
      refine g_get C 0 rfl rfl 10 (by decide) (fun _ h => (List.mem_cons_of_mem _ (List.mem_append_right _ h))) 6 rfl rfl rfl dX6_add_62 ?_
      refine g_aload_n C dX6_add_65 0 rfl rfl ?_
      refine g_get C 0 rfl rfl 5 (by decide) (fun _ h => (List.mem_cons_of_mem _ (List.mem_append_right _ h))) 1 rfl rfl rfl dX6_add_66 ?_
      refine g_iload C dX6_add_69 5 rfl ?_
      refine g_iast C 5 rfl (by omega) (by omega) (f' := upd bM es.length b) rfl (ws' := [(n0, .inr (5, [.int th, .ref np, .ref na, .int cp, .ref nc, .int (nI es.length), .ref nf, .ref nq, .ref no, .ref nx, .ref ny, .ref nl, .ref nh, .ref nb, .ref nw, .int pl, .ref nt, .int tl, .int av, .int wr, .long rs])), (nf, .inl (ty.2.1, 2000, .inr (.inl (vp_updL fM es.length f)))), (nq, .inl (ty.1, 2000, .inl (upd qM es.length (nI cv)))), (no, .inl (ty.1, 2000, .inl (upd oM es.length o))), (nx, .inl (ty.1, 2000, .inl (upd aM es.length a))), (ny, .inl (ty.1, 2000, .inl (upd bM es.length b))), (nl, .inl (ty.1, 1024, .inl lM)), (nh, .inl (ty.1, 2000, .inl hM))]) rfl dX6_add_71 ?_
      refine g_aload_n C dX6_add_72 0 rfl rfl ?_
      refine g_get C 0 rfl rfl 12 (by decide) (fun _ h => (List.mem_cons_of_mem _ (List.mem_append_right _ h))) 7 rfl rfl rfl dX6_add_73 ?_
      refine g_aload_n C dX6_add_76 0 rfl rfl ?_
      refine g_get C 0 rfl rfl 5 (by decide) (fun _ h => (List.mem_cons_of_mem _ (List.mem_append_right _ h))) 1 rfl rfl rfl dX6_add_77 ?_
      refine g_aload_n C dX6_add_80 0 rfl rfl ?_
      refine g_get C 0 rfl rfl 11 (by decide) (fun _ h => (List.mem_cons_of_mem _ (List.mem_append_right _ h))) 8 rfl rfl rfl dX6_add_81 ?_
      refine g_lload_n C dX6_add_84 1 rfl rfl ?_
      refine g_callPS C ⟨g_X0_ok, trivial⟩ (t_X6_chain l D ty f) rfl gX6_add_X6_chain 1 (by decide +kernel) rfl ⟨rfl, rfl⟩ ⟨Nat.le_of_ble_eq_true rfl, Nat.le_of_ble_eq_true rfl⟩ (rest := [.ref nl, .int (nI es.length), .ref nh]) [] rfl (Nat.le_of_ble_eq_true rfl) dX6_add_85 ⟨Nat.le_of_ble_eq_true rfl, Nat.le_of_ble_eq_true rfl⟩ rfl (g_ki (fun r hr => ?_))
      subst hr
      have := chn_lt f
      refine g_iald C (v := (lM (chn f))) 6 rfl (by omega) (by omega) rfl dX6_add_88 ?_
      refine g_iast C 7 rfl (by omega) (by omega) (f' := upd hM es.length (lM (chn f))) rfl (ws' := [(n0, .inr (5, [.int th, .ref np, .ref na, .int cp, .ref nc, .int (nI es.length), .ref nf, .ref nq, .ref no, .ref nx, .ref ny, .ref nl, .ref nh, .ref nb, .ref nw, .int pl, .ref nt, .int tl, .int av, .int wr, .long rs])), (nf, .inl (ty.2.1, 2000, .inr (.inl (vp_updL fM es.length f)))), (nq, .inl (ty.1, 2000, .inl (upd qM es.length (nI cv)))), (no, .inl (ty.1, 2000, .inl (upd oM es.length o))), (nx, .inl (ty.1, 2000, .inl (upd aM es.length a))), (ny, .inl (ty.1, 2000, .inl (upd bM es.length b))), (nl, .inl (ty.1, 1024, .inl lM)), (nh, .inl (ty.1, 2000, .inl (upd hM es.length (lM (chn f)))))]) rfl dX6_add_89 ?_
      refine g_aload_n C dX6_add_90 0 rfl rfl ?_
      refine g_get C 0 rfl rfl 11 (by decide) (fun _ h => (List.mem_cons_of_mem _ (List.mem_append_right _ h))) 8 rfl rfl rfl dX6_add_91 ?_
      refine g_lload_n C dX6_add_94 1 rfl rfl ?_
      refine g_callPS C ⟨g_X0_ok, trivial⟩ (t_X6_chain l D ty f) rfl gX6_add_X6_chain 1 (by decide +kernel) rfl ⟨rfl, rfl⟩ ⟨Nat.le_of_ble_eq_true rfl, Nat.le_of_ble_eq_true rfl⟩ (rest := [.ref nl]) [] rfl (Nat.le_of_ble_eq_true rfl) dX6_add_95 ⟨Nat.le_of_ble_eq_true rfl, Nat.le_of_ble_eq_true rfl⟩ rfl (g_ki (fun r hr => ?_))
      subst hr
      have := chn_lt f
      refine g_aload_n C dX6_add_98 0 rfl rfl ?_
      refine g_get C 0 rfl rfl 5 (by decide) (fun _ h => (List.mem_cons_of_mem _ (List.mem_append_right _ h))) 1 rfl rfl rfl dX6_add_99 ?_
      refine g_iconst C dX6_add_102 (v := (nI 1)) (by decide) ?_
      refine g_iadd C dX6_add_103 (v := (nI (es.length + 1))) (nI_add _ _) ?_
      refine g_iast C 6 rfl (by omega) (by omega) (f' := upd lM (chn f) (nI (es.length + 1))) rfl (ws' := [(n0, .inr (5, [.int th, .ref np, .ref na, .int cp, .ref nc, .int (nI es.length), .ref nf, .ref nq, .ref no, .ref nx, .ref ny, .ref nl, .ref nh, .ref nb, .ref nw, .int pl, .ref nt, .int tl, .int av, .int wr, .long rs])), (nf, .inl (ty.2.1, 2000, .inr (.inl (vp_updL fM es.length f)))), (nq, .inl (ty.1, 2000, .inl (upd qM es.length (nI cv)))), (no, .inl (ty.1, 2000, .inl (upd oM es.length o))), (nx, .inl (ty.1, 2000, .inl (upd aM es.length a))), (ny, .inl (ty.1, 2000, .inl (upd bM es.length b))), (nl, .inl (ty.1, 1024, .inl (upd lM (chn f) (nI (es.length + 1))))), (nh, .inl (ty.1, 2000, .inl (upd hM es.length (lM (chn f)))))]) rfl dX6_add_104 ?_
      refine g_aload_n C dX6_add_105 0 rfl rfl ?_
      refine g_dup C dX6_add_106 rfl ?_
      refine g_get C 0 rfl rfl 5 (by decide) (fun _ h => (List.mem_cons_of_mem _ (List.mem_append_right _ h))) 1 rfl rfl rfl dX6_add_107 ?_
      refine g_iconst C dX6_add_110 (v := (nI 1)) (by decide) ?_
      refine g_iadd C dX6_add_111 (v := (nI (es.length + 1))) (nI_add _ _) ?_
      refine g_put C 0 rfl rfl 5 (by decide) (fun _ h => (List.mem_cons_of_mem _ (List.mem_append_right _ h))) 1 rfl rfl tyX6 tyX6_ok nmX6 rfl rfl rfl rfl (Nat.le_of_ble_eq_true rfl) (ws' := [(n0, .inr (5, [.int th, .ref np, .ref na, .int cp, .ref nc, .int (nI (es.length + 1)), .ref nf, .ref nq, .ref no, .ref nx, .ref ny, .ref nl, .ref nh, .ref nb, .ref nw, .int pl, .ref nt, .int tl, .int av, .int wr, .long rs])), (nf, .inl (ty.2.1, 2000, .inr (.inl (vp_updL fM es.length f)))), (nq, .inl (ty.1, 2000, .inl (upd qM es.length (nI cv)))), (no, .inl (ty.1, 2000, .inl (upd oM es.length o))), (nx, .inl (ty.1, 2000, .inl (upd aM es.length a))), (ny, .inl (ty.1, 2000, .inl (upd bM es.length b))), (nl, .inl (ty.1, 1024, .inl (upd lM (chn f) (nI (es.length + 1))))), (nh, .inl (ty.1, 2000, .inl (upd hM es.length (lM (chn f)))))]) rfl dX6_add_112 ?_
      refine hR _ _ _ _ _ dX6_add_115 ?_ (by omega) (by omega)
      rw [hE]
      refine ⟨_, _, _, _, _, _, _, mod_put hw h7 f cv o a b hout, ?_⟩
      rw [len_app]
    · skip
      have hq : ¬ fnN es f es.length = 0 := by have h9 := m1_int (m := fnN es f es.length) (by omega); have h11 : 0 ≤ (nI (fnN es f es.length) - nI 1).toInt := h15; omega
      have hE : addE f cv o a b es = es := addE_old (Or.inr (fn_in.mp hq))
      refine hR _ _ _ _ _ dX6_add_18 ?_ (by omega) (by omega)
      rw [hE]; exact ⟨_, _, _, _, _, _, _, hw, rfl⟩


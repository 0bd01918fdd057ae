abbrev rm_t_X6_entries : Room := ({ frames := 0, cells := 0, slots := 0, locals := 0 } : Room)
set_option maxHeartbeats 4000000 in
set_option maxRecDepth 100000 in
theorem t_X6_entries (l : Launch) (D : va_G) (ty : g_T3) (n0 np na nc nf nq no nx ny nl nh nb nw nt : Nat) (th cp pl tl av wr : Int32) (rs : Int64) (en : Int32)  : g_U l yX6_entries wsX6_entries rm_t_X6_entries D ty g_X0 [.ref n0] [(n0, .inr (5, [.int th, .ref np, .ref na, .int cp, .ref nc, .int en, .ref nf, .ref nq, .ref no, .ref nx, .ref ny, .ref nl, .ref nh, .ref nb, .ref nw, .int pl, .ref nt, .int tl, .int av, .int wr, .long rs]))] 0 0 (g_ui (fun r w => r = en ∧ w = [(n0, .inr (5, [.int (nI 0), .ref np, .ref na, .int cp, .ref nc, .int en, .ref nf, .ref nq, .ref no, .ref nx, .ref ny, .ref nl, .ref nh, .ref nb, .ref nw, .int pl, .ref nt, .int tl, .int av, .int wr, .long rs]))])) := by
  refine g_ofUi (cc := cX6_entries) (nL := 1) (own := RX6) (by decide) rfl rfl g_X0_ok (Nat.le_of_ble_eq_true rfl) ?_
  intro p e s m args below meth c Q A C hA hX hin hR
  refine g_lv (lv' := [(0, .ref n0)]) [0] rfl ?_
  refine g_aload_n C dX6_entries_0 0 rfl rfl ?_
  refine g_iconst C dX6_entries_1 (v := (nI 0)) (by decide) ?_
  refine g_put C 0 rfl rfl 0 (by decide) (fun _ h => (List.mem_cons_of_mem _ (List.mem_append_right _ h))) 1 rfl rfl tyX6 tyX6_ok nmX6 rfl rfl rfl rfl (Nat.le_of_ble_eq_true rfl) (ws' := [(n0, .inr (5, [.int (nI 0), .ref np, .ref na, .int cp, .ref nc, .int en, .ref nf, .ref nq, .ref no, .ref nx, .ref ny, .ref nl, .ref nh, .ref nb, .ref nw, .int pl, .ref nt, .int tl, .int av, .int wr, .long rs]))]) rfl dX6_entries_2 ?_
  refine g_aload_n C dX6_entries_5 0 rfl rfl ?_
  refine g_get C 0 rfl rfl 5 (by decide) (fun _ h => (List.mem_cons_of_mem _ (List.mem_append_right _ h))) 2 rfl rfl rfl dX6_entries_6 ?_
  refine hR _ _ _ _ _ _ dX6_entries_9 ?_ (by omega) (by omega)
  exact ⟨rfl, rfl⟩

abbrev rm_t_X6_isEntry : Room := ({ frames := 1, cells := 0, slots := 0, locals := 22 } : Room)
set_option maxHeartbeats 4000000 in
set_option maxRecDepth 100000 in
theorem t_X6_isEntry (l : Launch) (D : va_G) (ty : g_T3) (n0 np na nc nf nq no nx ny nl nh nb nw nt : Nat) (th cp pl tl av wr : Int32) (rs : Int64) (es : List Ent) (hl0 : es.length ≤ 2000) (ev : Int32) : g_P l yX6_isEntry wsX6_isEntry rm_t_X6_isEntry D ty g_X0 [.ref n0, .int ev] [(n0, .inr (5, [.int th, .ref np, .ref na, .int cp, .ref nc, .int (nI es.length), .ref nf, .ref nq, .ref no, .ref nx, .ref ny, .ref nl, .ref nh, .ref nb, .ref nw, .int pl, .ref nt, .int tl, .int av, .int wr, .long rs]))] (g_pi (fun r => r = nI (hsB ev es.length).toNat)) := by
  refine g_ofPz (cc := cX6_isEntry) (nL := 2) (own := RX6) (by decide) rfl rfl g_X0_ok (Nat.le_of_ble_eq_true rfl) ?_
  intro p e s m args below meth c Q C hX hR
  refine g_lv (lv' := [(0, .ref n0), (1, .int ev)]) [0, 1] rfl ?_
  refine g_iload_n C dX6_isEntry_0 1 rfl rfl ?_
  refine g_iconst C dX6_isEntry_1 (v := (nI 0)) (by decide) ?_
  refine g_aload_n C dX6_isEntry_2 0 rfl rfl ?_
  refine g_get C 0 rfl rfl 5 (by decide) (fun _ h => (List.mem_cons_of_mem _ (List.mem_append_right _ h))) 1 rfl rfl rfl dX6_isEntry_3 ?_
  refine g_iconst C dX6_isEntry_6 (v := (nI 1)) (by decide) ?_
  refine g_isub C dX6_isEntry_7 (v := (nI es.length - nI 1)) rfl ?_
  refine g_callPS C ⟨g_X0_ok, trivial⟩ (t_X6_isIn l D ty ev (nI 0) (nI es.length - nI 1)) rfl gX6_isEntry_X6_isIn 3 (by decide +kernel) rfl ⟨rfl, rfl⟩ ⟨Nat.le_of_ble_eq_true rfl, Nat.le_of_ble_eq_true rfl⟩ (rest := []) [] rfl (Nat.le_of_ble_eq_true rfl) dX6_isEntry_8 ⟨Nat.le_of_ble_eq_true rfl, Nat.le_of_ble_eq_true rfl⟩ rfl (g_ki (fun r hr => ?_))
  subst hr
  have := bt_lt (inB ev (nI 0) (nI es.length - nI 1))
  exact hR _ _ _ _ (bt_z _) dX6_isEntry_11 (by rw [isE hl0])

abbrev rm_t_X6_told : Room := ({ frames := 0, cells := 0, slots := 0, locals := 0 } : Room)
set_option maxHeartbeats 4000000 in
set_option maxRecDepth 100000 in
theorem t_X6_told (l : Launch) (D : va_G) (ty : g_T3) (n0 np na nc nf nq no nx ny nl nh nb nw nt : Nat) (th cp pl tl av wr : Int32) (rs : Int64) (es : List Ent) (fM : Nat → Int64) (qM oM aM bM lM hM : Nat → Int32) (hw : modOk es fM qM oM aM bM lM hM) (k q : Nat) (hk : k < es.length) (hq : q ≤ 3) : g_P l yX6_told wsX6_told rm_t_X6_told D ty g_X0 [.ref n0, .int (nI k), .int (nI q)] [(n0, .inr (5, [.int th, .ref np, .ref na, .int cp, .ref nc, .int (nI es.length), .ref nf, .ref nq, .ref no, .ref nx, .ref ny, .ref nl, .ref nh, .ref nb, .ref nw, .int pl, .ref nt, .int tl, .int av, .int wr, .long rs])), (nq, .inl (ty.1, 2000, .inl qM)), (no, .inl (ty.1, 2000, .inl oM)), (nx, .inl (ty.1, 2000, .inl aM)), (ny, .inl (ty.1, 2000, .inl bM))] (g_pi (fun r => r = tlV es k q)) := by
  refine g_ofPi (cc := cX6_told) (nL := 3) (own := RX6) (by decide) rfl rfl g_X0_ok (Nat.le_of_ble_eq_true rfl) ?_
  intro p e s m args below meth c Q C hX hR
  refine g_lv (lv' := [(0, .ref n0), (1, .int (nI k)), (2, .int (nI q))]) [0, 1, 2] rfl ?_
  have hl0 := hw.2.2.2.2
  refine g_iload_n C dX6_told_0 2 rfl rfl ?_
  refine g_if_neN C dX6_told_1 (tgt := 13) (by decide) (by omega) (fun h1 => ?_) (fun h1 => ?_)
  · skip
    refine g_iload_n C dX6_told_13 2 rfl rfl ?_
    refine g_iconst C dX6_told_14 (v := (nI 1)) (by decide) ?_
    refine g_icmp_neN C dX6_told_15 (tgt := 27) (by decide) (by omega) (by omega) (fun h15 => ?_) (fun h15 => ?_)
    · skip
      refine g_iload_n C dX6_told_27 2 rfl rfl ?_
      refine g_iconst C dX6_told_28 (v := (nI 2)) (by decide) ?_
      refine g_icmp_neN C dX6_told_29 (tgt := 41) (by decide) (by omega) (by omega) (fun h29 => ?_) (fun h29 => ?_)
      · skip
        refine g_aload_n C dX6_told_41 0 rfl rfl ?_
        refine g_get C 0 rfl rfl 10 (by decide) (fun _ h => (List.mem_cons_of_mem _ (List.mem_append_right _ h))) 4 rfl rfl rfl dX6_told_42 ?_
        refine g_iload_n C dX6_told_45 1 rfl rfl ?_
        refine g_iald C (v := (eB es k)) 4 rfl (by omega) (by omega) (hw.1 k hk).2.2.2 dX6_told_46 ?_
        refine hR _ _ _ _ dX6_told_47 ?_
        first
        | (obtain rfl : q = 0 := (by omega); rfl)
        | (obtain rfl : q = 1 := (by omega); rfl)
        | (obtain rfl : q = 2 := (by omega); rfl)
        | (obtain rfl : q = 3 := (by omega); rfl)
      · skip
        refine g_aload_n C dX6_told_32 0 rfl rfl ?_
        refine g_get C 0 rfl rfl 9 (by decide) (fun _ h => (List.mem_cons_of_mem _ (List.mem_append_right _ h))) 3 rfl rfl rfl dX6_told_33 ?_
        refine g_iload_n C dX6_told_36 1 rfl rfl ?_
        refine g_iald C (v := (eA es k)) 3 rfl (by omega) (by omega) (hw.1 k hk).2.2.1 dX6_told_37 ?_
        refine g_goto C dX6_told_38 (tgt := 47) (by decide) ?_
        refine hR _ _ _ _ dX6_told_47 ?_
        first
        | (obtain rfl : q = 0 := (by omega); rfl)
        | (obtain rfl : q = 1 := (by omega); rfl)
        | (obtain rfl : q = 2 := (by omega); rfl)
        | (obtain rfl : q = 3 := (by omega); rfl)
    · skip
      refine g_aload_n C dX6_told_18 0 rfl rfl ?_
      refine g_get C 0 rfl rfl 8 (by decide) (fun _ h => (List.mem_cons_of_mem _ (List.mem_append_right _ h))) 2 rfl rfl rfl dX6_told_19 ?_
      refine g_iload_n C dX6_told_22 1 rfl rfl ?_
      refine g_iald C (v := (eO es k)) 2 rfl (by omega) (by omega) (hw.1 k hk).2.1 dX6_told_23 ?_
      refine g_goto C dX6_told_24 (tgt := 47) (by decide) ?_
      refine hR _ _ _ _ dX6_told_47 ?_
      first
      | (obtain rfl : q = 0 := (by omega); rfl)
      | (obtain rfl : q = 1 := (by omega); rfl)
      | (obtain rfl : q = 2 := (by omega); rfl)
      | (obtain rfl : q = 3 := (by omega); rfl)
  · skip
    refine g_aload_n C dX6_told_4 0 rfl rfl ?_
    refine g_get C 0 rfl rfl 7 (by decide) (fun _ h => (List.mem_cons_of_mem _ (List.mem_append_right _ h))) 1 rfl rfl rfl dX6_told_5 ?_
    refine g_iload_n C dX6_told_8 1 rfl rfl ?_
    refine g_iald C (v := (nI (eC es k))) 1 rfl (by omega) (by omega) (hw.2.1 k hk) dX6_told_9 ?_
    refine g_goto C dX6_told_10 (tgt := 47) (by decide) ?_
    refine hR _ _ _ _ dX6_told_47 ?_
    first
    | (obtain rfl : q = 0 := (by omega); rfl)
    | (obtain rfl : q = 1 := (by omega); rfl)
    | (obtain rfl : q = 2 := (by omega); rfl)
    | (obtain rfl : q = 3 := (by omega); rfl)

abbrev rm_t_X6_ofCost : Room := ({ frames := 1, cells := 0, slots := 0, locals := 22 } : Room)
set_option maxHeartbeats 4000000 in
set_option maxRecDepth 100000 in
theorem t_X6_ofCost (l : Launch) (D : va_G) (ty : g_T3) (n0 np na nc nf nq no nx ny nl nh nb nw nt : Nat) (th cp pl tl av wr : Int32) (rs : Int64) (es : List Ent) (fM : Nat → Int64) (qM oM aM bM lM hM : Nat → Int32) (hw : modOk es fM qM oM aM bM lM hM) (hwf : wfE es) (o : Int32) : g_U l yX6_ofCost wsX6_ofCost rm_t_X6_ofCost D ty g_X0 [.ref n0, .int o] [(n0, .inr (5, [.int th, .ref np, .ref na, .int cp, .ref nc, .int (nI es.length), .ref nf, .ref nq, .ref no, .ref nx, .ref ny, .ref nl, .ref nh, .ref nb, .ref nw, .int pl, .ref nt, .int tl, .int av, .int wr, .long rs])), (nq, .inl (ty.1, 2000, .inl qM))] 0 0 (g_ui (fun r w => (∃ k, k ≤ 6 ∧ o = nI k ∧ r = nI (ctC es k es.length) ∧ w = [(n0, .inr (5, [.int (nI 0), .ref np, .ref na, .int cp, .ref nc, .int (nI es.length), .ref nf, .ref nq, .ref no, .ref nx, .ref ny, .ref nl, .ref nh, .ref nb, .ref nw, .int pl, .ref nt, .int tl, .int av, .int wr, .long rs])), (nq, .inl (ty.1, 2000, .inl qM))]) ∨ ((o.toInt < 0 ∨ 6 < o.toInt) ∧ r = nI 0 ∧ w = [(n0, .inr (5, [.int (nI 1), .ref np, .ref na, .int cp, .ref nc, .int (nI es.length), .ref nf, .ref nq, .ref no, .ref nx, .ref ny, .ref nl, .ref nh, .ref nb, .ref nw, .int pl, .ref nt, .int tl, .int av, .int wr, .long rs])), (nq, .inl (ty.1, 2000, .inl qM))]))) := by
  refine g_ofUi (cc := cX6_ofCost) (nL := 4) (own := RX6) (by decide) rfl rfl g_X0_ok (Nat.le_of_ble_eq_true rfl) ?_
  intro p e s m args below meth c Q A C hA hX hin hR
  refine g_lv (lv' := [(0, .ref n0), (1, .int o)]) [0, 1] rfl ?_
  have hl0 := hw.2.2.2.2
  refine g_aload_n C dX6_ofCost_0 0 rfl rfl ?_
  refine g_iconst C dX6_ofCost_1 (v := (nI 0)) (by decide) ?_
  refine g_put C 0 rfl rfl 0 (by decide) (fun _ h => (List.mem_cons_of_mem _ (List.mem_append_right _ h))) 1 rfl rfl tyX6 tyX6_ok nmX6 rfl rfl rfl rfl (Nat.le_of_ble_eq_true rfl) (ws' := [(n0, .inr (5, [.int (nI 0), .ref np, .ref na, .int cp, .ref nc, .int (nI es.length), .ref nf, .ref nq, .ref no, .ref nx, .ref ny, .ref nl, .ref nh, .ref nb, .ref nw, .int pl, .ref nt, .int tl, .int av, .int wr, .long rs])), (nq, .inl (ty.1, 2000, .inl qM))]) rfl dX6_ofCost_2 ?_
  refine g_iload_n C dX6_ofCost_5 1 rfl rfl ?_
  refine g_iconst C dX6_ofCost_6 (v := (nI 0)) (by decide) ?_
  refine g_bipush C dX6_ofCost_7 (v := (nI 6)) (by decide) ?_
  refine g_callPS C ⟨g_X0_ok, trivial⟩ (t_X6_isIn l D ty o (nI 0) (nI 6)) rfl gX6_ofCost_X6_isIn 3 (by decide +kernel) rfl ⟨rfl, rfl⟩ ⟨Nat.le_of_ble_eq_true rfl, Nat.le_of_ble_eq_true rfl⟩ (rest := []) [] rfl (Nat.le_of_ble_eq_true rfl) dX6_ofCost_9 ⟨Nat.le_of_ble_eq_true rfl, Nat.le_of_ble_eq_true rfl⟩ rfl (g_ki (fun r hr => ?_))
  subst hr
  have := bt_lt (inB o (nI 0) (nI 6))
  refine g_if_neN C dX6_ofCost_12 (tgt := 21) (by decide) (by omega) (fun h12 => ?_) (fun h12 => ?_)
  · skip
    obtain ⟨k, hk, rfl⟩ := in_nI (by decide) h12
    refine g_iconst C dX6_ofCost_21 (v := (nI 0)) (by decide) ?_
    refine g_istore_n C dX6_ofCost_22 rfl (by decide) (lv' := [(2, .int (nI 0)), (0, .ref n0), (1, .int (nI k))]) rfl ?_
    refine g_iconst C dX6_ofCost_23 (v := (nI 0)) (by decide) ?_
    refine g_istore_n C dX6_ofCost_24 rfl (by decide) (lv' := [(3, .int (nI 0)), (2, .int (nI 0)), (0, .ref n0), (1, .int (nI k))]) rfl ?_
    have L25 : ∀ (n9 : Nat) (i : Nat), es.length - i < n9 → (i ≤ es.length) → gG (g_IU A D s) p l e rm_t_X6_ofCost s m args below meth c Q 4 0 0 25 [(3, .int (nI i)), (2, .int (nI (ctC es k i))), (0, .ref n0), (1, .int (nI k))] [] [(n0, .inr (5, [.int (nI 0), .ref np, .ref na, .int cp, .ref nc, .int (nI es.length), .ref nf, .ref nq, .ref no, .ref nx, .ref ny, .ref nl, .ref nh, .ref nb, .ref nw, .int pl, .ref nt, .int tl, .int av, .int wr, .long rs])), (nq, .inl (ty.1, 2000, .inl qM))] := by
      intro n9
      induction n9 with
      | zero => intro i hn; exact absurd hn (Nat.not_lt_zero _)
      | succ n9 ih25 =>
        intro i hn25 hi
        refine g_iload_n C dX6_ofCost_25 0 rfl rfl ?_
        refine g_aload_n C dX6_ofCost_26 2 rfl rfl ?_
        refine g_get C 0 rfl rfl 5 (by decide) (fun _ h => (List.mem_cons_of_mem _ (List.mem_append_right _ h))) 2 rfl rfl rfl dX6_ofCost_27 ?_
        refine g_icmp_geN C dX6_ofCost_30 (tgt := 57) (by decide) (by omega) (by omega) (fun h30 => ?_) (fun h30 => ?_)
        · skip
          have hie : i = es.length := by omega
          refine g_iload_n C dX6_ofCost_57 1 rfl rfl ?_
          refine hR _ _ _ _ _ _ dX6_ofCost_58 ?_ (by omega) (by omega)
          exact Or.inl ⟨k, hk, rfl, by rw [hie], rfl⟩
        · skip
          have hc6 := (hwf i (by omega)).1
          refine g_iload_n C dX6_ofCost_33 1 rfl rfl ?_
          refine g_aload_n C dX6_ofCost_34 2 rfl rfl ?_
          refine g_get C 0 rfl rfl 7 (by decide) (fun _ h => (List.mem_cons_of_mem _ (List.mem_append_right _ h))) 3 rfl rfl rfl dX6_ofCost_35 ?_
          refine g_iload_n C dX6_ofCost_38 0 rfl rfl ?_
          refine g_iald C (v := (nI (eC es i))) 1 rfl (by omega) (by omega) (hw.2.1 i (by omega)) dX6_ofCost_39 ?_
          refine g_iload_n C dX6_ofCost_40 3 rfl rfl ?_
          refine g_icmp_neN C dX6_ofCost_41 (tgt := 48) (by decide) (by omega) (by omega) (fun h41 => ?_) (fun h41 => ?_)
          · skip
            refine g_iconst C dX6_ofCost_48 (v := (nI 0)) (by decide) ?_
            refine g_iadd C dX6_ofCost_49 (v := (nI (ctC es k (i + 1)))) (by first | exact ct_1 h41 | exact ct_0 h41) ?_
            refine g_istore_n C dX6_ofCost_50 rfl (by decide) (lv' := [(2, .int (nI (ctC es k (i + 1)))), (3, .int (nI i)), (0, .ref n0), (1, .int (nI k))]) rfl ?_
            refine g_iinc C dX6_ofCost_51 1 rfl (v := (nI (i + 1))) (nI_1 i) (by decide) (lv' := [(3, .int (nI (i + 1))), (2, .int (nI (ctC es k (i + 1)))), (0, .ref n0), (1, .int (nI k))]) rfl ?_
            refine g_goto C dX6_ofCost_54 (tgt := 25) (by decide) ?_
            exact ih25 (i + 1) (by omega) (by omega)
          · skip
            refine g_iconst C dX6_ofCost_44 (v := (nI 1)) (by decide) ?_
            refine g_goto C dX6_ofCost_45 (tgt := 49) (by decide) ?_
            refine g_iadd C dX6_ofCost_49 (v := (nI (ctC es k (i + 1)))) (by first | exact ct_1 h41 | exact ct_0 h41) ?_
            refine g_istore_n C dX6_ofCost_50 rfl (by decide) (lv' := [(2, .int (nI (ctC es k (i + 1)))), (3, .int (nI i)), (0, .ref n0), (1, .int (nI k))]) rfl ?_
            refine g_iinc C dX6_ofCost_51 1 rfl (v := (nI (i + 1))) (nI_1 i) (by decide) (lv' := [(3, .int (nI (i + 1))), (2, .int (nI (ctC es k (i + 1)))), (0, .ref n0), (1, .int (nI k))]) rfl ?_
            refine g_goto C dX6_ofCost_54 (tgt := 25) (by decide) ?_
            exact ih25 (i + 1) (by omega) (by omega)
    exact L25 _ 0 (Nat.lt_succ_self _) (by omega)
  · skip
    have hno := in_no (by decide) h12
    refine g_aload_n C dX6_ofCost_15 0 rfl rfl ?_
    refine g_iconst C dX6_ofCost_16 (v := (nI 1)) (by decide) ?_
    refine g_callUV C ⟨g_X0_ok, trivial⟩ (t_X6_no l D ty n0 np na nc nf nq no nx ny nl nh nb nw nt (nI 0) cp pl tl av wr rs (nI es.length) (nI 1)) rfl gX6_ofCost_X6_no 1 (by decide +kernel) rfl ⟨rfl, rfl⟩ ⟨Nat.le_of_ble_eq_true rfl, Nat.le_of_ble_eq_true rfl⟩ (rest := []) (q0 := 0) rfl rfl hA [0] [1] rfl rfl rfl (wr := [(nq, .inl (ty.1, 2000, .inl qM))]) rfl rfl rfl (Nat.le_of_ble_eq_true rfl) dX6_ofCost_17 ⟨Nat.le_of_ble_eq_true rfl, Nat.le_of_ble_eq_true rfl⟩ rfl (g_kui (fun r w hr => ?_))
    obtain ⟨rfl, rfl⟩ := hr
    refine g_ws (ws' := [(n0, .inr (5, [.int (nI 1), .ref np, .ref na, .int cp, .ref nc, .int (nI es.length), .ref nf, .ref nq, .ref no, .ref nx, .ref ny, .ref nl, .ref nh, .ref nb, .ref nw, .int pl, .ref nt, .int tl, .int av, .int wr, .long rs])), (nq, .inl (ty.1, 2000, .inl qM))]) [1, 0] rfl rfl rfl ?_
    refine hR _ _ _ _ _ _ dX6_ofCost_20 ?_ (by omega) (by omega)
    exact Or.inr ⟨by omega, rfl, rfl⟩

abbrev rm_t_X6_function : Room := ({ frames := 2, cells := 0, slots := 0, locals := 43 } : Room)
set_option maxHeartbeats 4000000 in
set_option maxRecDepth 100000 in
theorem t_X6_function (l : Launch) (D : va_G) (ty : g_T3) (n0 np na nc nf nq no nx ny nl nh nb nw nt : Nat) (th cp pl tl av wr : Int32) (rs : Int64) (es : List Ent) (fM : Nat → Int64) (qM oM aM bM lM hM : Nat → Int32) (hw : modOk es fM qM oM aM bM lM hM) (ev : Int32) : g_U l yX6_function wsX6_function rm_t_X6_function D ty g_X0 [.ref n0, .int ev] [(n0, .inr (5, [.int th, .ref np, .ref na, .int cp, .ref nc, .int (nI es.length), .ref nf, .ref nq, .ref no, .ref nx, .ref ny, .ref nl, .ref nh, .ref nb, .ref nw, .int pl, .ref nt, .int tl, .int av, .int wr, .long rs])), (nf, .inl (ty.2.1, 2000, .inr (.inl fM)))] 0 0 (g_ul (fun r w => (∃ k, k < es.length ∧ ev = nI k ∧ r = eF es k ∧ w = [(n0, .inr (5, [.int (nI 0), .ref np, .ref na, .int cp, .ref nc, .int (nI es.length), .ref nf, .ref nq, .ref no, .ref nx, .ref ny, .ref nl, .ref nh, .ref nb, .ref nw, .int pl, .ref nt, .int tl, .int av, .int wr, .long rs])), (nf, .inl (ty.2.1, 2000, .inr (.inl fM)))]) ∨ ((ev.toInt < 0 ∨ (es.length : Int) ≤ ev.toInt) ∧ r = 0 ∧ w = [(n0, .inr (5, [.int (nI 1), .ref np, .ref na, .int cp, .ref nc, .int (nI es.length), .ref nf, .ref nq, .ref no, .ref nx, .ref ny, .ref nl, .ref nh, .ref nb, .ref nw, .int pl, .ref nt, .int tl, .int av, .int wr, .long rs])), (nf, .inl (ty.2.1, 2000, .inr (.inl fM)))]))) := by
  refine g_ofUl (cc := cX6_function) (nL := 2) (own := RX6) (by decide) rfl rfl g_X0_ok (Nat.le_of_ble_eq_true rfl) ?_
  intro p e s m args below meth c Q A C hA hX hin hR
  refine g_lv (lv' := [(0, .ref n0), (1, .int ev)]) [0, 1] rfl ?_
  have hl0 := hw.2.2.2.2
  refine g_aload_n C dX6_function_0 0 rfl rfl ?_
  refine g_aload_n C dX6_function_1 0 rfl rfl ?_
  refine g_iload_n C dX6_function_2 1 rfl rfl ?_
  refine g_callPV C ⟨g_X0_ok, trivial⟩ (t_X6_isEntry l D ty n0 np na nc nf nq no nx ny nl nh nb nw nt th cp pl tl av wr rs es hl0 ev) rfl gX6_function_X6_isEntry 1 (by decide +kernel) rfl ⟨rfl, rfl⟩ ⟨Nat.le_of_ble_eq_true rfl, Nat.le_of_ble_eq_true rfl⟩ (rest := [.ref n0]) (q0 := 0) rfl rfl [0] rfl (Nat.le_of_ble_eq_true rfl) dX6_function_3 ⟨Nat.le_of_ble_eq_true rfl, Nat.le_of_ble_eq_true rfl⟩ rfl (g_ki (fun r hr => ?_))
  subst hr
  have := bt_lt (hsB ev es.length)
  refine g_if_eqN C dX6_function_6 (tgt := 13) (by decide) (by omega) (fun h6 => ?_) (fun h6 => ?_)
  · skip
    refine g_iconst C dX6_function_13 (v := (nI 1)) (by decide) ?_
    have L14 : ∀ (n9 : Nat) (tv : Nat), 0 < n9 → ((tv = 0 ∧ ∃ k, k < es.length ∧ ev = nI k) ∨ (tv = 1 ∧ (ev.toInt < 0 ∨ (es.length : Int) ≤ ev.toInt))) → (tv ≤ 1) → gG (g_IU A D s) p l e rm_t_X6_function s m args below meth c Q 2 0 0 14 [(0, .ref n0), (1, .int ev)] [.int (nI tv), .ref n0] [(n0, .inr (5, [.int th, .ref np, .ref na, .int cp, .ref nc, .int (nI es.length), .ref nf, .ref nq, .ref no, .ref nx, .ref ny, .ref nl, .ref nh, .ref nb, .ref nw, .int pl, .ref nt, .int tl, .int av, .int wr, .long rs])), (nf, .inl (ty.2.1, 2000, .inr (.inl fM)))] := by
      intro n9
      induction n9 with
      | zero => intro tv hn; exact absurd hn (Nat.not_lt_zero _)
      | succ n9 ih14 =>
        intro tv hn14 htv ht1
        refine g_put C 0 rfl rfl 0 (by decide) (fun _ h => (List.mem_cons_of_mem _ (List.mem_append_right _ h))) 1 rfl rfl tyX6 tyX6_ok nmX6 rfl rfl rfl rfl (Nat.le_of_ble_eq_true rfl) (ws' := [(n0, .inr (5, [.int (nI tv), .ref np, .ref na, .int cp, .ref nc, .int (nI es.length), .ref nf, .ref nq, .ref no, .ref nx, .ref ny, .ref nl, .ref nh, .ref nb, .ref nw, .int pl, .ref nt, .int tl, .int av, .int wr, .long rs])), (nf, .inl (ty.2.1, 2000, .inr (.inl fM)))]) rfl dX6_function_14 ?_
        refine g_aload_n C dX6_function_17 0 rfl rfl ?_
        refine g_get C 0 rfl rfl 0 (by decide) (fun _ h => (List.mem_cons_of_mem _ (List.mem_append_right _ h))) 1 rfl rfl rfl dX6_function_18 ?_
        refine g_if_neN C dX6_function_21 (tgt := 33) (by decide) (by omega) (fun h21 => ?_) (fun h21 => ?_)
        · skip
          have hno := (htv.resolve_left (fun z => by have := z.1; omega)).2
          obtain rfl : tv = 1 := by omega
          refine g_lconst C dX6_function_33 (v := 0) (by decide) ?_
          refine hR _ _ _ _ _ _ dX6_function_34 ?_ (by omega) (by omega)
          first | exact Or.inl ⟨k, hk, rfl, rfl, rfl⟩ | exact Or.inr ⟨hno, rfl, rfl⟩
        · skip
          obtain ⟨k, hk, rfl⟩ := (htv.resolve_right (fun z => by have := z.1; omega)).2
          obtain rfl : tv = 0 := by omega
          refine g_aload_n C dX6_function_24 0 rfl rfl ?_
          refine g_get C 0 rfl rfl 6 (by decide) (fun _ h => (List.mem_cons_of_mem _ (List.mem_append_right _ h))) 2 rfl rfl rfl dX6_function_25 ?_
          refine g_iload_n C dX6_function_28 1 rfl rfl ?_
          refine g_lald C (v := (eF es k)) 1 rfl (by omega) (by omega) (hw.1 k hk).1 dX6_function_29 ?_
          refine g_goto C dX6_function_30 (tgt := 34) (by decide) ?_
          refine hR _ _ _ _ _ _ dX6_function_34 ?_ (by omega) (by omega)
          first | exact Or.inl ⟨k, hk, rfl, rfl, rfl⟩ | exact Or.inr ⟨hno, rfl, rfl⟩
    exact L14 _ _ (Nat.lt_succ_self _) (by first | exact Or.inr ⟨rfl, hs_0 h6⟩ | exact Or.inl ⟨rfl, hs_1 h6⟩) (by decide)
  · skip
    refine g_iconst C dX6_function_9 (v := (nI 0)) (by decide) ?_
    refine g_goto C dX6_function_10 (tgt := 14) (by decide) ?_
    have L14 : ∀ (n9 : Nat) (tv : Nat), 0 < n9 → ((tv = 0 ∧ ∃ k, k < es.length ∧ ev = nI k) ∨ (tv = 1 ∧ (ev.toInt < 0 ∨ (es.length : Int) ≤ ev.toInt))) → (tv ≤ 1) → gG (g_IU A D s) p l e rm_t_X6_function s m args below meth c Q 2 0 0 14 [(0, .ref n0), (1, .int ev)] [.int (nI tv), .ref n0] [(n0, .inr (5, [.int th, .ref np, .ref na, .int cp, .ref nc, .int (nI es.length), .ref nf, .ref nq, .ref no, .ref nx, .ref ny, .ref nl, .ref nh, .ref nb, .ref nw, .int pl, .ref nt, .int tl, .int av, .int wr, .long rs])), (nf, .inl (ty.2.1, 2000, .inr (.inl fM)))] := by
      intro n9
      induction n9 with
      | zero => intro tv hn; exact absurd hn (Nat.not_lt_zero _)
      | succ n9 ih14 =>
        intro tv hn14 htv ht1
        refine g_put C 0 rfl rfl 0 (by decide) (fun _ h => (List.mem_cons_of_mem _ (List.mem_append_right _ h))) 1 rfl rfl tyX6 tyX6_ok nmX6 rfl rfl rfl rfl (Nat.le_of_ble_eq_true rfl) (ws' := [(n0, .inr (5, [.int (nI tv), .ref np, .ref na, .int cp, .ref nc, .int (nI es.length), .ref nf, .ref nq, .ref no, .ref nx, .ref ny, .ref nl, .ref nh, .ref nb, .ref nw, .int pl, .ref nt, .int tl, .int av, .int wr, .long rs])), (nf, .inl (ty.2.1, 2000, .inr (.inl fM)))]) rfl dX6_function_14 ?_
        refine g_aload_n C dX6_function_17 0 rfl rfl ?_
        refine g_get C 0 rfl rfl 0 (by decide) (fun _ h => (List.mem_cons_of_mem _ (List.mem_append_right _ h))) 1 rfl rfl rfl dX6_function_18 ?_
        refine g_if_neN C dX6_function_21 (tgt := 33) (by decide) (by omega) (fun h21 => ?_) (fun h21 => ?_)
        · skip
          have hno := (htv.resolve_left (fun z => by have := z.1; omega)).2
          obtain rfl : tv = 1 := by omega
          refine g_lconst C dX6_function_33 (v := 0) (by decide) ?_
          refine hR _ _ _ _ _ _ dX6_function_34 ?_ (by omega) (by omega)
          first | exact Or.inl ⟨k, hk, rfl, rfl, rfl⟩ | exact Or.inr ⟨hno, rfl, rfl⟩
        · skip
          obtain ⟨k, hk, rfl⟩ := (htv.resolve_right (fun z => by have := z.1; omega)).2
          obtain rfl : tv = 0 := by omega
          refine g_aload_n C dX6_function_24 0 rfl rfl ?_
          refine g_get C 0 rfl rfl 6 (by decide) (fun _ h => (List.mem_cons_of_mem _ (List.mem_append_right _ h))) 2 rfl rfl rfl dX6_function_25 ?_
          refine g_iload_n C dX6_function_28 1 rfl rfl ?_
          refine g_lald C (v := (eF es k)) 1 rfl (by omega) (by omega) (hw.1 k hk).1 dX6_function_29 ?_
          refine g_goto C dX6_function_30 (tgt := 34) (by decide) ?_
          refine hR _ _ _ _ _ _ dX6_function_34 ?_ (by omega) (by omega)
          first | exact Or.inl ⟨k, hk, rfl, rfl, rfl⟩ | exact Or.inr ⟨hno, rfl, rfl⟩
    exact L14 _ _ (Nat.lt_succ_self _) (by first | exact Or.inr ⟨rfl, hs_0 h6⟩ | exact Or.inl ⟨rfl, hs_1 h6⟩) (by decide)

abbrev rm_t_X6_entry : Room := ({ frames := 2, cells := 0, slots := 0, locals := 43 } : Room)
set_option maxHeartbeats 4000000 in
set_option maxRecDepth 100000 in
theorem t_X6_entry (l : Launch) (D : va_G) (ty : g_T3) (n0 np na nc nf nq no nx ny nl nh nb nw nt : Nat) (th cp pl tl av wr : Int32) (rs : Int64) (es : List Ent) (fM : Nat → Int64) (qM oM aM bM lM hM : Nat → Int32) (hw : modOk es fM qM oM aM bM lM hM) (ev wh : Int32) : g_U l yX6_entry wsX6_entry rm_t_X6_entry D ty g_X0 [.ref n0, .int ev, .int wh] [(n0, .inr (5, [.int th, .ref np, .ref na, .int cp, .ref nc, .int (nI es.length), .ref nf, .ref nq, .ref no, .ref nx, .ref ny, .ref nl, .ref nh, .ref nb, .ref nw, .int pl, .ref nt, .int tl, .int av, .int wr, .long rs])), (nq, .inl (ty.1, 2000, .inl qM)), (no, .inl (ty.1, 2000, .inl oM)), (nx, .inl (ty.1, 2000, .inl aM)), (ny, .inl (ty.1, 2000, .inl bM))] 0 0 (g_ui (fun r w => (∃ k q, k < es.length ∧ ev = nI k ∧ q ≤ 3 ∧ wh = nI q ∧ r = tlV es k q ∧ w = [(n0, .inr (5, [.int (nI 0), .ref np, .ref na, .int cp, .ref nc, .int (nI es.length), .ref nf, .ref nq, .ref no, .ref nx, .ref ny, .ref nl, .ref nh, .ref nb, .ref nw, .int pl, .ref nt, .int tl, .int av, .int wr, .long rs])), (nq, .inl (ty.1, 2000, .inl qM)), (no, .inl (ty.1, 2000, .inl oM)), (nx, .inl (ty.1, 2000, .inl aM)), (ny, .inl (ty.1, 2000, .inl bM))]) ∨ (((ev.toInt < 0 ∨ (es.length : Int) ≤ ev.toInt) ∨ (wh.toInt < 0 ∨ 3 < wh.toInt)) ∧ r = nI 0 ∧ w = [(n0, .inr (5, [.int (nI 1), .ref np, .ref na, .int cp, .ref nc, .int (nI es.length), .ref nf, .ref nq, .ref no, .ref nx, .ref ny, .ref nl, .ref nh, .ref nb, .ref nw, .int pl, .ref nt, .int tl, .int av, .int wr, .long rs])), (nq, .inl (ty.1, 2000, .inl qM)), (no, .inl (ty.1, 2000, .inl oM)), (nx, .inl (ty.1, 2000, .inl aM)), (ny, .inl (ty.1, 2000, .inl bM))]))) := by
  refine g_ofUi (cc := cX6_entry) (nL := 3) (own := RX6) (by decide) rfl rfl g_X0_ok (Nat.le_of_ble_eq_true rfl) ?_
  intro p e s m args below meth c Q A C hA hX hin hR
  refine g_lv (lv' := [(0, .ref n0), (1, .int ev), (2, .int wh)]) [0, 1, 2] rfl ?_
  have hl0 := hw.2.2.2.2
  refine g_aload_n C dX6_entry_0 0 rfl rfl ?_
  refine g_iconst C dX6_entry_1 (v := (nI 0)) (by decide) ?_
  refine g_put C 0 rfl rfl 0 (by decide) (fun _ h => (List.mem_cons_of_mem _ (List.mem_append_right _ h))) 1 rfl rfl tyX6 tyX6_ok nmX6 rfl rfl rfl rfl (Nat.le_of_ble_eq_true rfl) (ws' := [(n0, .inr (5, [.int (nI 0), .ref np, .ref na, .int cp, .ref nc, .int (nI es.length), .ref nf, .ref nq, .ref no, .ref nx, .ref ny, .ref nl, .ref nh, .ref nb, .ref nw, .int pl, .ref nt, .int tl, .int av, .int wr, .long rs])), (nq, .inl (ty.1, 2000, .inl qM)), (no, .inl (ty.1, 2000, .inl oM)), (nx, .inl (ty.1, 2000, .inl aM)), (ny, .inl (ty.1, 2000, .inl bM))]) rfl dX6_entry_2 ?_
  refine g_aload_n C dX6_entry_5 0 rfl rfl ?_
  refine g_iload_n C dX6_entry_6 1 rfl rfl ?_
  refine g_callPV C ⟨g_X0_ok, trivial⟩ (t_X6_isEntry l D ty n0 np na nc nf nq no nx ny nl nh nb nw nt (nI 0) cp pl tl av wr rs es hl0 ev) rfl gX6_entry_X6_isEntry 1 (by decide +kernel) rfl ⟨rfl, rfl⟩ ⟨Nat.le_of_ble_eq_true rfl, Nat.le_of_ble_eq_true rfl⟩ (rest := []) (q0 := 0) rfl rfl [0] rfl (Nat.le_of_ble_eq_true rfl) dX6_entry_7 ⟨Nat.le_of_ble_eq_true rfl, Nat.le_of_ble_eq_true rfl⟩ rfl (g_ki (fun r hr => ?_))
  subst hr
  have := bt_lt (hsB ev es.length)
  refine g_if_eqN C dX6_entry_10 (tgt := 31) (by decide) (by omega) (fun h10 => ?_) (fun h10 => ?_)
  · skip
    have hno : (ev.toInt < 0 ∨ (es.length : Int) ≤ ev.toInt) ∨ (wh.toInt < 0 ∨ 3 < wh.toInt) := Or.inl (hs_0 h10)
    refine g_aload_n C dX6_entry_31 0 rfl rfl ?_
    refine g_iconst C dX6_entry_32 (v := (nI 1)) (by decide) ?_
    refine g_callUV C ⟨g_X0_ok, trivial⟩ (t_X6_no l D ty n0 np na nc nf nq no nx ny nl nh nb nw nt (nI 0) cp pl tl av wr rs (nI es.length) (nI 1)) rfl gX6_entry_X6_no 1 (by decide +kernel) rfl ⟨rfl, rfl⟩ ⟨Nat.le_of_ble_eq_true rfl, Nat.le_of_ble_eq_true rfl⟩ (rest := []) (q0 := 0) rfl rfl hA [0] [1, 2, 3, 4] rfl rfl rfl (wr := [(nq, .inl (ty.1, 2000, .inl qM)), (no, .inl (ty.1, 2000, .inl oM)), (nx, .inl (ty.1, 2000, .inl aM)), (ny, .inl (ty.1, 2000, .inl bM))]) rfl rfl rfl (Nat.le_of_ble_eq_true rfl) dX6_entry_33 ⟨Nat.le_of_ble_eq_true rfl, Nat.le_of_ble_eq_true rfl⟩ rfl (g_kui (fun r w hr => ?_))
    obtain ⟨rfl, rfl⟩ := hr
    refine g_ws (ws' := [(n0, .inr (5, [.int (nI 1), .ref np, .ref na, .int cp, .ref nc, .int (nI es.length), .ref nf, .ref nq, .ref no, .ref nx, .ref ny, .ref nl, .ref nh, .ref nb, .ref nw, .int pl, .ref nt, .int tl, .int av, .int wr, .long rs])), (nq, .inl (ty.1, 2000, .inl qM)), (no, .inl (ty.1, 2000, .inl oM)), (nx, .inl (ty.1, 2000, .inl aM)), (ny, .inl (ty.1, 2000, .inl bM))]) [4, 0, 1, 2, 3] rfl rfl rfl ?_
    refine hR _ _ _ _ _ _ dX6_entry_36 ?_ (by omega) (by omega)
    first | exact Or.inl ⟨k, q, hk, rfl, hq, rfl, rfl, rfl⟩ | exact Or.inr ⟨hno, rfl, rfl⟩
  · skip
    obtain ⟨k, hk, rfl⟩ := hs_1 h10
    refine g_iload_n C dX6_entry_13 2 rfl rfl ?_
    refine g_iconst C dX6_entry_14 (v := (nI 0)) (by decide) ?_
    refine g_iconst C dX6_entry_15 (v := (nI 3)) (by decide) ?_
    refine g_callPS C ⟨g_X0_ok, trivial⟩ (t_X6_isIn l D ty wh (nI 0) (nI 3)) rfl gX6_entry_X6_isIn 3 (by decide +kernel) rfl ⟨rfl, rfl⟩ ⟨Nat.le_of_ble_eq_true rfl, Nat.le_of_ble_eq_true rfl⟩ (rest := []) [] rfl (Nat.le_of_ble_eq_true rfl) dX6_entry_16 ⟨Nat.le_of_ble_eq_true rfl, Nat.le_of_ble_eq_true rfl⟩ rfl (g_ki (fun r hr => ?_))
    subst hr
    have := bt_lt (inB wh (nI 0) (nI 3))
    refine g_if_eqN C dX6_entry_19 (tgt := 31) (by decide) (by omega) (fun h19 => ?_) (fun h19 => ?_)
    · skip
      have hno : ((nI k).toInt < 0 ∨ (es.length : Int) ≤ (nI k).toInt) ∨ (wh.toInt < 0 ∨ 3 < wh.toInt) := Or.inr (in_no (by decide) h19)
      refine g_aload_n C dX6_entry_31 0 rfl rfl ?_
      refine g_iconst C dX6_entry_32 (v := (nI 1)) (by decide) ?_
      refine g_callUV C ⟨g_X0_ok, trivial⟩ (t_X6_no l D ty n0 np na nc nf nq no nx ny nl nh nb nw nt (nI 0) cp pl tl av wr rs (nI es.length) (nI 1)) rfl gX6_entry_X6_no 1 (by decide +kernel) rfl ⟨rfl, rfl⟩ ⟨Nat.le_of_ble_eq_true rfl, Nat.le_of_ble_eq_true rfl⟩ (rest := []) (q0 := 0) rfl rfl hA [0] [1, 2, 3, 4] rfl rfl rfl (wr := [(nq, .inl (ty.1, 2000, .inl qM)), (no, .inl (ty.1, 2000, .inl oM)), (nx, .inl (ty.1, 2000, .inl aM)), (ny, .inl (ty.1, 2000, .inl bM))]) rfl rfl rfl (Nat.le_of_ble_eq_true rfl) dX6_entry_33 ⟨Nat.le_of_ble_eq_true rfl, Nat.le_of_ble_eq_true rfl⟩ rfl (g_kui (fun r w hr => ?_))
      obtain ⟨rfl, rfl⟩ := hr
      refine g_ws (ws' := [(n0, .inr (5, [.int (nI 1), .ref np, .ref na, .int cp, .ref nc, .int (nI es.length), .ref nf, .ref nq, .ref no, .ref nx, .ref ny, .ref nl, .ref nh, .ref nb, .ref nw, .int pl, .ref nt, .int tl, .int av, .int wr, .long rs])), (nq, .inl (ty.1, 2000, .inl qM)), (no, .inl (ty.1, 2000, .inl oM)), (nx, .inl (ty.1, 2000, .inl aM)), (ny, .inl (ty.1, 2000, .inl bM))]) [4, 0, 1, 2, 3] rfl rfl rfl ?_
      refine hR _ _ _ _ _ _ dX6_entry_36 ?_ (by omega) (by omega)
      first | exact Or.inl ⟨k, q, hk, rfl, hq, rfl, rfl, rfl⟩ | exact Or.inr ⟨hno, rfl, rfl⟩
    · skip
      obtain ⟨q, hq, rfl⟩ := in_nI (by decide) h19
      refine g_aload_n C dX6_entry_22 0 rfl rfl ?_
      refine g_iload_n C dX6_entry_23 1 rfl rfl ?_
      refine g_iload_n C dX6_entry_24 2 rfl rfl ?_
      refine g_callPV C ⟨g_X0_ok, trivial⟩ (t_X6_told l D ty n0 np na nc nf nq no nx ny nl nh nb nw nt (nI 0) cp pl tl av wr rs es fM qM oM aM bM lM hM hw k q (by omega) (by omega)) rfl gX6_entry_X6_told 2 (by decide +kernel) rfl ⟨rfl, rfl⟩ ⟨Nat.le_of_ble_eq_true rfl, Nat.le_of_ble_eq_true rfl⟩ (rest := []) (q0 := 0) rfl rfl [0, 1, 2, 3, 4] rfl (Nat.le_of_ble_eq_true rfl) dX6_entry_25 ⟨Nat.le_of_ble_eq_true rfl, Nat.le_of_ble_eq_true rfl⟩ rfl (g_ki (fun r hr => ?_))
      subst hr
      refine g_goto C dX6_entry_28 (tgt := 36) (by decide) ?_
      refine hR _ _ _ _ _ _ dX6_entry_36 ?_ (by omega) (by omega)
      first | exact Or.inl ⟨k, q, hk, rfl, hq, rfl, rfl, rfl⟩ | exact Or.inr ⟨hno, rfl, rfl⟩

abbrev rm_t_X6_find : Room := ({ frames := 2, cells := 0, slots := 0, locals := 44 } : Room)
set_option maxHeartbeats 4000000 in
set_option maxRecDepth 100000 in
theorem t_X6_find (l : Launch) (D : va_G) (ty : g_T3) (n0 np na nc nf nq no nx ny nl nh nb nw nt : Nat) (th cp pl tl av wr : Int32) (rs : Int64) (es : List Ent) (fM : Nat → Int64) (qM oM aM bM lM hM : Nat → Int32) (hw : modOk es fM qM oM aM bM lM hM) (f : Int64) : g_U l yX6_find wsX6_find rm_t_X6_find D ty g_X0 [.ref n0, .long f] [(n0, .inr (5, [.int th, .ref np, .ref na, .int cp, .ref nc, .int (nI es.length), .ref nf, .ref nq, .ref no, .ref nx, .ref ny, .ref nl, .ref nh, .ref nb, .ref nw, .int pl, .ref nt, .int tl, .int av, .int wr, .long rs])), (nf, .inl (ty.2.1, 2000, .inr (.inl fM))), (nl, .inl (ty.1, 1024, .inl lM)), (nh, .inl (ty.1, 2000, .inl hM))] 0 0 (g_ui (fun r w => r = nI (fnN es f es.length) - 1 ∧ w = [(n0, .inr (5, [.int (nI 0), .ref np, .ref na, .int cp, .ref nc, .int (nI es.length), .ref nf, .ref nq, .ref no, .ref nx, .ref ny, .ref nl, .ref nh, .ref nb, .ref nw, .int pl, .ref nt, .int tl, .int av, .int wr, .long rs])), (nf, .inl (ty.2.1, 2000, .inr (.inl fM))), (nl, .inl (ty.1, 1024, .inl lM)), (nh, .inl (ty.1, 2000, .inl hM))])) := by
  refine g_ofUi (cc := cX6_find) (nL := 3) (own := RX6) (by decide) rfl rfl g_X0_ok (Nat.le_of_ble_eq_true rfl) ?_
  intro p e s m args below meth c Q A C hA hX hin hR
  refine g_lv (lv' := [(0, .ref n0), (1, .long f)]) [0, 1] rfl ?_
  have hl0 := hw.2.2.2.2
  refine g_aload_n C dX6_find_0 0 rfl rfl ?_
  refine g_iconst C dX6_find_1 (v := (nI 0)) (by decide) ?_
  refine g_put C 0 rfl rfl 0 (by decide) (fun _ h => (List.mem_cons_of_mem _ (List.mem_append_right _ h))) 1 rfl rfl tyX6 tyX6_ok nmX6 rfl rfl rfl rfl (Nat.le_of_ble_eq_true rfl) (ws' := [(n0, .inr (5, [.int (nI 0), .ref np, .ref na, .int cp, .ref nc, .int (nI es.length), .ref nf, .ref nq, .ref no, .ref nx, .ref ny, .ref nl, .ref nh, .ref nb, .ref nw, .int pl, .ref nt, .int tl, .int av, .int wr, .long rs])), (nf, .inl (ty.2.1, 2000, .inr (.inl fM))), (nl, .inl (ty.1, 1024, .inl lM)), (nh, .inl (ty.1, 2000, .inl hM))]) rfl dX6_find_2 ?_
  refine g_aload_n C dX6_find_5 0 rfl rfl ?_
  refine g_lload_n C dX6_find_6 1 rfl rfl ?_
  refine g_callPV C ⟨g_X0_ok, trivial⟩ (t_X6_entryOf l D ty n0 np na nc nf nq no nx ny nl nh nb nw nt (nI 0) cp pl tl av wr rs es fM qM oM aM bM lM hM hw f) rfl gX6_find_X6_entryOf 1 (by decide +kernel) rfl ⟨rfl, rfl⟩ ⟨Nat.le_of_ble_eq_true rfl, Nat.le_of_ble_eq_true rfl⟩ (rest := []) (q0 := 0) rfl rfl [0, 1, 2, 3] rfl (Nat.le_of_ble_eq_true rfl) dX6_find_7 ⟨Nat.le_of_ble_eq_true rfl, Nat.le_of_ble_eq_true rfl⟩ rfl (g_ki (fun r hr => ?_))
  subst hr
  refine hR _ _ _ _ _ _ dX6_find_10 ?_ (by omega) (by omega)
  exact ⟨rfl, rfl⟩

abbrev rm_t_X6_fit : Room := ({ frames := 2, cells := 0, slots := 0, locals := 47 } : Room)
set_option maxHeartbeats 4000000 in
set_option maxRecDepth 100000 in
theorem t_X6_fit (l : Launch) (D : va_G) (ty : g_T3) (n0 np na nc nf nq no nx ny nl nh nb nw nt : Nat) (th cp pl tl av wr : Int32) (rs : Int64) (es : List Ent) (fM : Nat → Int64) (qM oM aM bM lM hM : Nat → Int32) (hw : modOk es fM qM oM aM bM lM hM) (f : Int64) (o : Int32) : g_U l yX6_fit wsX6_fit rm_t_X6_fit D ty g_X0 [.ref n0, .long f, .int o] [(n0, .inr (5, [.int th, .ref np, .ref na, .int cp, .ref nc, .int (nI es.length), .ref nf, .ref nq, .ref no, .ref nx, .ref ny, .ref nl, .ref nh, .ref nb, .ref nw, .int pl, .ref nt, .int tl, .int av, .int wr, .long rs])), (nf, .inl (ty.2.1, 2000, .inr (.inl fM)))] 0 0 (g_ui (fun r w => (∃ k, k ≤ 65535 ∧ o = nI k ∧ fstI (fun j => ulN f (eF es j) 16 &&& k = 0) es.length r ∧ w = [(n0, .inr (5, [.int (nI 0), .ref np, .ref na, .int cp, .ref nc, .int (nI es.length), .ref nf, .ref nq, .ref no, .ref nx, .ref ny, .ref nl, .ref nh, .ref nb, .ref nw, .int pl, .ref nt, .int tl, .int av, .int wr, .long rs])), (nf, .inl (ty.2.1, 2000, .inr (.inl fM)))]) ∨ ((o.toInt < 0 ∨ 65535 < o.toInt) ∧ r = nI 0 ∧ w = [(n0, .inr (5, [.int (nI 1), .ref np, .ref na, .int cp, .ref nc, .int (nI es.length), .ref nf, .ref nq, .ref no, .ref nx, .ref ny, .ref nl, .ref nh, .ref nb, .ref nw, .int pl, .ref nt, .int tl, .int av, .int wr, .long rs])), (nf, .inl (ty.2.1, 2000, .inr (.inl fM)))]))) := by
  refine g_ofUi (cc := cX6_fit) (nL := 5) (own := RX6) (by decide) rfl rfl g_X0_ok (Nat.le_of_ble_eq_true rfl) ?_
  intro p e s m args below meth c Q A C hA hX hin hR
  refine g_lv (lv' := [(0, .ref n0), (1, .long f), (3, .int o)]) [0, 1, 2] rfl ?_
  have hl0 := hw.2.2.2.2
  refine g_aload_n C dX6_fit_0 0 rfl rfl ?_
  refine g_iconst C dX6_fit_1 (v := (nI 0)) (by decide) ?_
  refine g_put C 0 rfl rfl 0 (by decide) (fun _ h => (List.mem_cons_of_mem _ (List.mem_append_right _ h))) 1 rfl rfl tyX6 tyX6_ok nmX6 rfl rfl rfl rfl (Nat.le_of_ble_eq_true rfl) (ws' := [(n0, .inr (5, [.int (nI 0), .ref np, .ref na, .int cp, .ref nc, .int (nI es.length), .ref nf, .ref nq, .ref no, .ref nx, .ref ny, .ref nl, .ref nh, .ref nb, .ref nw, .int pl, .ref nt, .int tl, .int av, .int wr, .long rs])), (nf, .inl (ty.2.1, 2000, .inr (.inl fM)))]) rfl dX6_fit_2 ?_
  refine g_iload_n C dX6_fit_5 2 rfl rfl ?_
  refine g_iconst C dX6_fit_6 (v := (nI 0)) (by decide) ?_
  refine g_ldc C (v := (nI 65535)) 2 rfl dX6_fit_7 ?_
  refine g_callPS C ⟨g_X0_ok, trivial⟩ (t_X6_isIn l D ty o (nI 0) (nI 65535)) rfl gX6_fit_X6_isIn 3 (by decide +kernel) rfl ⟨rfl, rfl⟩ ⟨Nat.le_of_ble_eq_true rfl, Nat.le_of_ble_eq_true rfl⟩ (rest := []) [] rfl (Nat.le_of_ble_eq_true rfl) dX6_fit_9 ⟨Nat.le_of_ble_eq_true rfl, Nat.le_of_ble_eq_true rfl⟩ rfl (g_ki (fun r hr => ?_))
  subst hr
  have := bt_lt (inB o (nI 0) (nI 65535))
  refine g_if_neN C dX6_fit_12 (tgt := 21) (by decide) (by omega) (fun h12 => ?_) (fun h12 => ?_)
  · skip
    obtain ⟨k, hk, rfl⟩ := in_nI (by decide) h12
    refine g_iconst C dX6_fit_21 (v := (nI 0)) (by decide) ?_
    refine g_istore C dX6_fit_22 (by decide) (lv' := [(4, .int (nI 0)), (0, .ref n0), (1, .long f), (3, .int (nI k))]) rfl ?_
    have L24 : ∀ (n9 : Nat) (i : Nat), es.length - i < n9 → (i ≤ es.length) → (∀ j, j < i → ¬ (ulN f (eF es j) 16 &&& k = 0)) → gG (g_IU A D s) p l e rm_t_X6_fit s m args below meth c Q 5 0 0 24 [(4, .int (nI i)), (0, .ref n0), (1, .long f), (3, .int (nI k))] [] [(n0, .inr (5, [.int (nI 0), .ref np, .ref na, .int cp, .ref nc, .int (nI es.length), .ref nf, .ref nq, .ref no, .ref nx, .ref ny, .ref nl, .ref nh, .ref nb, .ref nw, .int pl, .ref nt, .int tl, .int av, .int wr, .long rs])), (nf, .inl (ty.2.1, 2000, .inr (.inl fM)))] := by
      intro n9
      induction n9 with
      | zero => intro i hn; exact absurd hn (Nat.not_lt_zero _)
      | succ n9 ih24 =>
        intro i hn24 hi hj
        refine g_iload C dX6_fit_24 0 rfl ?_
        refine g_aload_n C dX6_fit_26 1 rfl rfl ?_
        refine g_get C 0 rfl rfl 5 (by decide) (fun _ h => (List.mem_cons_of_mem _ (List.mem_append_right _ h))) 3 rfl rfl rfl dX6_fit_27 ?_
        refine g_icmp_geN C dX6_fit_30 (tgt := 58) (by decide) (by omega) (by omega) (fun h30 => ?_) (fun h30 => ?_)
        · skip
          have hie : i = es.length := by omega
          refine g_iconst C dX6_fit_58 (v := (-1)) (by decide) ?_
          refine hR _ _ _ _ _ _ dX6_fit_59 ?_ (by omega) (by omega)
          exact Or.inl ⟨k, hk, rfl, Or.inr ⟨rfl, fun j h => hj j (by omega)⟩, rfl⟩
        · skip
          refine g_lload_n C dX6_fit_33 2 rfl rfl ?_
          refine g_aload_n C dX6_fit_34 1 rfl rfl ?_
          refine g_get C 0 rfl rfl 6 (by decide) (fun _ h => (List.mem_cons_of_mem _ (List.mem_append_right _ h))) 4 rfl rfl rfl dX6_fit_35 ?_
          refine g_iload C dX6_fit_38 0 rfl ?_
          refine g_lald C (v := (eF es i)) 1 rfl (by omega) (by omega) (hw.1 i (by omega)).1 dX6_fit_40 ?_
          refine g_callPS C ⟨g_X0_ok, trivial⟩ (t_X6_unlike l D ty f (eF es i)) rfl gX6_fit_X6_unlike 2 (by decide +kernel) rfl ⟨rfl, rfl⟩ ⟨Nat.le_of_ble_eq_true rfl, Nat.le_of_ble_eq_true rfl⟩ (rest := []) [] rfl (Nat.le_of_ble_eq_true rfl) dX6_fit_41 ⟨Nat.le_of_ble_eq_true rfl, Nat.le_of_ble_eq_true rfl⟩ rfl (g_ki (fun r hr => ?_))
          subst hr
          have : ulN f (eF es i) 16 < 65536 := ulN_lt _ _ 16 (by decide)
          refine g_iload_n C dX6_fit_44 3 rfl rfl ?_
          refine g_iand C dX6_fit_45 (v := (nI (ulN f (eF es i) 16 &&& k))) (niand _ _) ?_
          refine g_if_neN C dX6_fit_46 (tgt := 52) (by decide) (Nat.lt_of_le_of_lt Nat.and_le_right (by omega)) (fun h46 => ?_) (fun h46 => ?_)
          · skip
            refine g_iinc C dX6_fit_52 0 rfl (v := (nI (i + 1))) (nI_1 i) (by decide) (lv' := [(4, .int (nI (i + 1))), (0, .ref n0), (1, .long f), (3, .int (nI k))]) rfl ?_
            refine g_goto C dX6_fit_55 (tgt := 24) (by decide) ?_
            exact ih24 (i + 1) (by omega) (by omega) (fun j h => (Nat.lt_or_ge j i).elim (hj j) (fun q => by rw [show j = i by omega]; exact h46))
          · skip
            refine g_iload C dX6_fit_49 0 rfl ?_
            refine hR _ _ _ _ _ _ dX6_fit_51 ?_ (by omega) (by omega)
            exact Or.inl ⟨k, hk, rfl, Or.inl ⟨i, by omega, rfl, h46, hj⟩, rfl⟩
    exact L24 _ 0 (Nat.lt_succ_self _) (by omega) (fun j h => absurd h (Nat.not_lt_zero j))
  · skip
    have hno := in_no (by decide) h12
    refine g_aload_n C dX6_fit_15 0 rfl rfl ?_
    refine g_iconst C dX6_fit_16 (v := (nI 1)) (by decide) ?_
    refine g_callUV C ⟨g_X0_ok, trivial⟩ (t_X6_no l D ty n0 np na nc nf nq no nx ny nl nh nb nw nt (nI 0) cp pl tl av wr rs (nI es.length) (nI 1)) rfl gX6_fit_X6_no 1 (by decide +kernel) rfl ⟨rfl, rfl⟩ ⟨Nat.le_of_ble_eq_true rfl, Nat.le_of_ble_eq_true rfl⟩ (rest := []) (q0 := 0) rfl rfl hA [0] [1] rfl rfl rfl (wr := [(nf, .inl (ty.2.1, 2000, .inr (.inl fM)))]) rfl rfl rfl (Nat.le_of_ble_eq_true rfl) dX6_fit_17 ⟨Nat.le_of_ble_eq_true rfl, Nat.le_of_ble_eq_true rfl⟩ rfl (g_kui (fun r w hr => ?_))
    obtain ⟨rfl, rfl⟩ := hr
    refine g_ws (ws' := [(n0, .inr (5, [.int (nI 1), .ref np, .ref na, .int cp, .ref nc, .int (nI es.length), .ref nf, .ref nq, .ref no, .ref nx, .ref ny, .ref nl, .ref nh, .ref nb, .ref nw, .int pl, .ref nt, .int tl, .int av, .int wr, .long rs])), (nf, .inl (ty.2.1, 2000, .inr (.inl fM)))]) [1, 0] rfl rfl rfl ?_
    refine hR _ _ _ _ _ _ dX6_fit_20 ?_ (by omega) (by omega)
    exact Or.inr ⟨by omega, rfl, rfl⟩

abbrev rm_t_X6_near : Room := ({ frames := 2, cells := 0, slots := 0, locals := 47 } : Room)
set_option maxHeartbeats 4000000 in
set_option maxRecDepth 100000 in
theorem t_X6_near (l : Launch) (D : va_G) (ty : g_T3) (n0 np na nc nf nq no nx ny nl nh nb nw nt : Nat) (th cp pl tl av wr : Int32) (rs : Int64) (es : List Ent) (fM : Nat → Int64) (qM oM aM bM lM hM : Nat → Int32) (hw : modOk es fM qM oM aM bM lM hM) (f : Int64) : g_U l yX6_near wsX6_near rm_t_X6_near D ty g_X0 [.ref n0, .long f] [(n0, .inr (5, [.int th, .ref np, .ref na, .int cp, .ref nc, .int (nI es.length), .ref nf, .ref nq, .ref no, .ref nx, .ref ny, .ref nl, .ref nh, .ref nb, .ref nw, .int pl, .ref nt, .int tl, .int av, .int wr, .long rs])), (nf, .inl (ty.2.1, 2000, .inr (.inl fM)))] 0 0 (g_ui (fun r w => r = (nrN (fun j => ibc (nI (ulN f (eF es j) 16))) es.length).1 ∧ w = [(n0, .inr (5, [.int (nI 0), .ref np, .ref na, .int cp, .ref nc, .int (nI es.length), .ref nf, .ref nq, .ref no, .ref nx, .ref ny, .ref nl, .ref nh, .ref nb, .ref nw, .int pl, .ref nt, .int tl, .int av, .int wr, .long rs])), (nf, .inl (ty.2.1, 2000, .inr (.inl fM)))])) := by
  refine g_ofUi (cc := cX6_near) (nL := 7) (own := RX6) (by decide) rfl rfl g_X0_ok (Nat.le_of_ble_eq_true rfl) ?_
  intro p e s m args below meth c Q A C hA hX hin hR
  refine g_lv (lv' := [(0, .ref n0), (1, .long f)]) [0, 1] rfl ?_
  have hl0 := hw.2.2.2.2
  refine g_aload_n C dX6_near_0 0 rfl rfl ?_
  refine g_iconst C dX6_near_1 (v := (nI 0)) (by decide) ?_
  refine g_put C 0 rfl rfl 0 (by decide) (fun _ h => (List.mem_cons_of_mem _ (List.mem_append_right _ h))) 1 rfl rfl tyX6 tyX6_ok nmX6 rfl rfl rfl rfl (Nat.le_of_ble_eq_true rfl) (ws' := [(n0, .inr (5, [.int (nI 0), .ref np, .ref na, .int cp, .ref nc, .int (nI es.length), .ref nf, .ref nq, .ref no, .ref nx, .ref ny, .ref nl, .ref nh, .ref nb, .ref nw, .int pl, .ref nt, .int tl, .int av, .int wr, .long rs])), (nf, .inl (ty.2.1, 2000, .inr (.inl fM)))]) rfl dX6_near_2 ?_
  refine g_iconst C dX6_near_5 (v := (-1)) (by decide) ?_
  refine g_istore_n C dX6_near_6 rfl (by decide) (lv' := [(3, .int (-1)), (0, .ref n0), (1, .long f)]) rfl ?_
  refine g_bipush C dX6_near_7 (v := (nI 17)) (by decide) ?_
  refine g_istore C dX6_near_9 (by decide) (lv' := [(4, .int (nI 17)), (3, .int (-1)), (0, .ref n0), (1, .long f)]) rfl ?_
  refine g_iconst C dX6_near_11 (v := (nI 0)) (by decide) ?_
  refine g_istore C dX6_near_12 (by decide) (lv' := [(5, .int (nI 0)), (4, .int (nI 17)), (3, .int (-1)), (0, .ref n0), (1, .long f)]) rfl ?_
  have L14 : ∀ (n9 : Nat) (i : Nat) (v u : Int32), es.length - i < n9 → (i ≤ es.length) → (v = (nrN (fun j => ibc (nI (ulN f (eF es j) 16))) i).1) → (u = (nrN (fun j => ibc (nI (ulN f (eF es j) 16))) i).2) → gG (g_IU A D s) p l e rm_t_X6_near s m args below meth c Q 7 0 0 14 [(5, .int (nI i)), (4, .int u), (3, .int v), (0, .ref n0), (1, .long f)] [] [(n0, .inr (5, [.int (nI 0), .ref np, .ref na, .int cp, .ref nc, .int (nI es.length), .ref nf, .ref nq, .ref no, .ref nx, .ref ny, .ref nl, .ref nh, .ref nb, .ref nw, .int pl, .ref nt, .int tl, .int av, .int wr, .long rs])), (nf, .inl (ty.2.1, 2000, .inr (.inl fM)))] := by
    intro n9
    induction n9 with
    | zero => intro i v u hn; exact absurd hn (Nat.not_lt_zero _)
    | succ n9 ih14 =>
      intro i v u hn14 hi hv hu
      refine g_iload C dX6_near_14 0 rfl ?_
      refine g_aload_n C dX6_near_16 3 rfl rfl ?_
      refine g_get C 0 rfl rfl 5 (by decide) (fun _ h => (List.mem_cons_of_mem _ (List.mem_append_right _ h))) 2 rfl rfl rfl dX6_near_17 ?_
      refine g_icmp_geN C dX6_near_20 (tgt := 62) (by decide) (by omega) (by omega) (fun h20 => ?_) (fun h20 => ?_)
      · skip
        have hie : i = es.length := by omega
        refine g_iload_n C dX6_near_62 2 rfl rfl ?_
        refine hR _ _ _ _ _ _ dX6_near_63 ?_ (by omega) (by omega)
        exact ⟨by rw [hv, hie], rfl⟩
      · skip
        refine g_lload_n C dX6_near_23 4 rfl rfl ?_
        refine g_aload_n C dX6_near_24 3 rfl rfl ?_
        refine g_get C 0 rfl rfl 6 (by decide) (fun _ h => (List.mem_cons_of_mem _ (List.mem_append_right _ h))) 3 rfl rfl rfl dX6_near_25 ?_
        refine g_iload C dX6_near_28 0 rfl ?_
        refine g_lald C (v := (eF es i)) 1 rfl (by omega) (by omega) (hw.1 i (by omega)).1 dX6_near_30 ?_
        refine g_callPS C ⟨g_X0_ok, trivial⟩ (t_X6_unlike l D ty f (eF es i)) rfl gX6_near_X6_unlike 2 (by decide +kernel) rfl ⟨rfl, rfl⟩ ⟨Nat.le_of_ble_eq_true rfl, Nat.le_of_ble_eq_true rfl⟩ (rest := []) [] rfl (Nat.le_of_ble_eq_true rfl) dX6_near_31 ⟨Nat.le_of_ble_eq_true rfl, Nat.le_of_ble_eq_true rfl⟩ rfl (g_ki (fun r hr => ?_))
        subst hr
        have : ulN f (eF es i) 16 < 65536 := ulN_lt _ _ 16 (by decide)
        refine g_callPS C ⟨g_X0_ok, trivial⟩ (t_J6_bitCount_0f7a4 l D ty (nI (ulN f (eF es i) 16))) rfl gX6_near_J6_bitCount_0f7a4 1 (by decide +kernel) rfl ⟨rfl, rfl⟩ ⟨Nat.le_of_ble_eq_true rfl, Nat.le_of_ble_eq_true rfl⟩ (rest := []) [] rfl (Nat.le_of_ble_eq_true rfl) dX6_near_34 ⟨Nat.le_of_ble_eq_true rfl, Nat.le_of_ble_eq_true rfl⟩ rfl (g_ki (fun r hr => ?_))
        subst hr
        refine g_istore C dX6_near_37 (by decide) (lv' := [(6, .int (ibc (nI (ulN f (eF es i) 16)))), (5, .int (nI i)), (4, .int u), (3, .int v), (0, .ref n0), (1, .long f)]) rfl ?_
        refine g_iload C dX6_near_39 0 rfl ?_
        refine g_iload C dX6_near_41 2 rfl ?_
        refine g_icmp_lt C dX6_near_43 (tgt := 49) (by decide) (fun h43 => ?_) (fun h43 => ?_)
        · skip
          refine g_iload C dX6_near_49 1 rfl ?_
          refine g_istore_n C dX6_near_51 rfl (by decide) (lv' := [(3, .int (nI i)), (6, .int (ibc (nI (ulN f (eF es i) 16)))), (5, .int (nI i)), (4, .int u), (0, .ref n0), (1, .long f)]) rfl ?_
          refine g_iload C dX6_near_52 1 rfl ?_
          refine g_istore C dX6_near_54 (by decide) (lv' := [(4, .int (ibc (nI (ulN f (eF es i) 16)))), (3, .int (nI i)), (6, .int (ibc (nI (ulN f (eF es i) 16)))), (5, .int (nI i)), (0, .ref n0), (1, .long f)]) rfl ?_
          refine g_iinc C dX6_near_56 3 rfl (v := (nI (i + 1))) (nI_1 i) (by decide) (lv' := [(5, .int (nI (i + 1))), (4, .int (ibc (nI (ulN f (eF es i) 16)))), (3, .int (nI i)), (6, .int (ibc (nI (ulN f (eF es i) 16)))), (0, .ref n0), (1, .long f)]) rfl ?_
          refine g_goto C dX6_near_59 (tgt := 14) (by decide) ?_
          refine g_lv [0, 1, 2, 4, 5] rfl ?_
          exact ih14 (i + 1) _ _ (by omega) (by omega) (by first | (rw [nrN_1 (by rw [← hu]; exact h43)]) | (rw [nrN_0 (by rw [← hu]; exact h43)]; exact hv)) (by first | (rw [nrN_1 (by rw [← hu]; exact h43)]) | (rw [nrN_0 (by rw [← hu]; exact h43)]; exact hu))
        · skip
          refine g_goto C dX6_near_46 (tgt := 56) (by decide) ?_
          refine g_iinc C dX6_near_56 1 rfl (v := (nI (i + 1))) (nI_1 i) (by decide) (lv' := [(5, .int (nI (i + 1))), (6, .int (ibc (nI (ulN f (eF es i) 16)))), (4, .int u), (3, .int v), (0, .ref n0), (1, .long f)]) rfl ?_
          refine g_goto C dX6_near_59 (tgt := 14) (by decide) ?_
          refine g_lv [0, 2, 3, 4, 5] rfl ?_
          exact ih14 (i + 1) _ _ (by omega) (by omega) (by first | (rw [nrN_1 (by rw [← hu]; exact h43)]) | (rw [nrN_0 (by rw [← hu]; exact h43)]; exact hv)) (by first | (rw [nrN_1 (by rw [← hu]; exact h43)]) | (rw [nrN_0 (by rw [← hu]; exact h43)]; exact hu))
  exact L14 _ 0 _ _ (Nat.lt_succ_self _) (by omega) rfl rfl


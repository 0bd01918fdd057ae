abbrev rm_t_X6_put : Room := ({ frames := 0, cells := 0, slots := 0, locals := 0 } : Room)
set_option maxHeartbeats 4000000 in
set_option maxRecDepth 100000 in
theorem t_X6_put (l : Launch) (D : va_G) (ty : g_T3) (n0 np na nc nf nq no nx ny nl nh nb nw nt : Nat) (th cp tl av wr : Int32) (rs : Int64) (en : Int32) (pb : Nat → Nat) (nv b : Nat) (hn : nv < 400) : g_U l yX6_put wsX6_put rm_t_X6_put D ty g_X0 [.ref n0, .int (nI b)] [(n0, .inr (5, [.int th, .ref np, .ref na, .int cp, .ref nc, .int en, .ref nf, .ref nq, .ref no, .ref nx, .ref ny, .ref nl, .ref nh, .ref nb, .ref nw, .int (nI nv), .ref nt, .int tl, .int av, .int wr, .long rs])), (nw, .inl (ty.1, 400, .inl (zN pb)))] 0 0 (g_uv (fun w => w = [(n0, .inr (5, [.int th, .ref np, .ref na, .int cp, .ref nc, .int en, .ref nf, .ref nq, .ref no, .ref nx, .ref ny, .ref nl, .ref nh, .ref nb, .ref nw, .int (nI (nv + 1)), .ref nt, .int tl, .int av, .int wr, .long rs])), (nw, .inl (ty.1, 400, .inl (zN (va_up pb nv b))))])) := by
  refine g_ofUv (cc := cX6_put) (nL := 2) (own := RX6) (by decide) rfl rfl g_X0_ok (Nat.le_of_ble_eq_true rfl) ?_
  intro p e s m args below meth c Q A C hA hX hin hR
  refine g_lv (lv' := [(0, .ref n0), (1, .int (nI b))]) [0, 1] rfl ?_
  refine g_aload_n C dX6_put_0 0 rfl rfl ?_
  refine g_get C 0 rfl rfl 14 (by decide) (fun _ h => (List.mem_cons_of_mem _ (List.mem_append_right _ h))) 1 rfl rfl rfl dX6_put_1 ?_
  refine g_aload_n C dX6_put_4 0 rfl rfl ?_
  refine g_get C 0 rfl rfl 15 (by decide) (fun _ h => (List.mem_cons_of_mem _ (List.mem_append_right _ h))) 2 rfl rfl rfl dX6_put_5 ?_
  refine g_iload_n C dX6_put_8 1 rfl rfl ?_
  refine g_iast C 1 rfl (by omega) (by omega) (f' := zN (va_up pb nv b)) (zN_upd _ _ _) (ws' := [(n0, .inr (5, [.int th, .ref np, .ref na, .int cp, .ref nc, .int en, .ref nf, .ref nq, .ref no, .ref nx, .ref ny, .ref nl, .ref nh, .ref nb, .ref nw, .int (nI nv), .ref nt, .int tl, .int av, .int wr, .long rs])), (nw, .inl (ty.1, 400, .inl (zN (va_up pb nv b))))]) rfl dX6_put_9 ?_
  refine g_aload_n C dX6_put_10 0 rfl rfl ?_
  refine g_dup C dX6_put_11 rfl ?_
  refine g_get C 0 rfl rfl 15 (by decide) (fun _ h => (List.mem_cons_of_mem _ (List.mem_append_right _ h))) 2 rfl rfl rfl dX6_put_12 ?_
  refine g_iconst C dX6_put_15 (v := (nI 1)) (by decide) ?_
  refine g_iadd C dX6_put_16 (v := (nI (nv + 1))) (nI_add _ _) ?_
  refine g_put C 0 rfl rfl 15 (by decide) (fun _ h => (List.mem_cons_of_mem _ (List.mem_append_right _ h))) 2 rfl rfl tyX6 tyX6_ok nmX6 rfl rfl rfl rfl (Nat.le_of_ble_eq_true rfl) (ws' := [(n0, .inr (5, [.int th, .ref np, .ref na, .int cp, .ref nc, .int en, .ref nf, .ref nq, .ref no, .ref nx, .ref ny, .ref nl, .ref nh, .ref nb, .ref nw, .int (nI (nv + 1)), .ref nt, .int tl, .int av, .int wr, .long rs])), (nw, .inl (ty.1, 400, .inl (zN (va_up pb nv b))))]) rfl dX6_put_17 ?_
  refine hR _ _ _ _ _ dX6_put_20 ?_ (by omega) (by omega)
  rfl


set_option maxHeartbeats 4000000 in
set_option maxRecDepth 100000 in
theorem t_X6_putEntry (l : Launch) (D : va_G) (ty : g_T3) (n0 np na nc nf nq no nx ny nl nh nb nw nt : Nat) (th cp tl av wr : Int32) (rs : Int64) (es : List Ent) (oM aM bM : Nat → Int32) (hr0 : ∀ i, i < es.length → oM i = eO es i ∧ aM i = eA es i ∧ bM i = eB es i) (hwf : wfE es) (hl0 : es.length ≤ 2000) (n : Nat) (hA1 : ∀ (pb : Nat → Nat) (nv x : Nat), x < es.length → eC es x < n → nv + (agE es n x).length ≤ 30 → g_U l yX6_putArgument wsX6_putArgument ({ frames := 3 * n + 11, cells := 0, slots := 0, locals := 100 * n + 260 } : Room) D ty g_XN [.ref n0, .int (nI x)] [(n0, .inr (5, [.int th, .ref np, .ref na, .int cp, .ref nc, .int (nI es.length), .ref nf, .ref nq, .ref no, .ref nx, .ref ny, .ref nl, .ref nh, .ref nb, .ref nw, .int (nI nv), .ref nt, .int tl, .int av, .int wr, .long rs])), (no, .inl (ty.1, 2000, .inl oM)), (nx, .inl (ty.1, 2000, .inl aM)), (ny, .inl (ty.1, 2000, .inl bM)), (nw, .inl (ty.1, 400, .inl (zN pb)))] 0 0 (g_uv (fun w => w = [(n0, .inr (5, [.int th, .ref np, .ref na, .int cp, .ref nc, .int (nI es.length), .ref nf, .ref nq, .ref no, .ref nx, .ref ny, .ref nl, .ref nh, .ref nb, .ref nw, .int (nI (nv + (agE es n x).length)), .ref nt, .int tl, .int av, .int wr, .long rs])), (no, .inl (ty.1, 2000, .inl oM)), (nx, .inl (ty.1, 2000, .inl aM)), (ny, .inl (ty.1, 2000, .inl bM)), (nw, .inl (ty.1, 400, .inl (zN (apL pb nv (agE es n x)))))]))) (pb : Nat → Nat) (nv i : Nat) (hi : i < es.length) (hci : eC es i < n + 1) (hbl : nv + (fmE es (n + 1) i).length ≤ 30) : g_U l yX6_putEntry wsX6_putEntry ({ frames := 3 * (n + 1) + 10, cells := 0, slots := 0, locals := 100 * (n + 1) + 200 } : Room) D ty g_XN [.ref n0, .int (nI i)] [(n0, .inr (5, [.int th, .ref np, .ref na, .int cp, .ref nc, .int (nI es.length), .ref nf, .ref nq, .ref no, .ref nx, .ref ny, .ref nl, .ref nh, .ref nb, .ref nw, .int (nI nv), .ref nt, .int tl, .int av, .int wr, .long rs])), (no, .inl (ty.1, 2000, .inl oM)), (nx, .inl (ty.1, 2000, .inl aM)), (ny, .inl (ty.1, 2000, .inl bM)), (nw, .inl (ty.1, 400, .inl (zN pb)))] 0 0 (g_uv (fun w => w = [(n0, .inr (5, [.int th, .ref np, .ref na, .int cp, .ref nc, .int (nI es.length), .ref nf, .ref nq, .ref no, .ref nx, .ref ny, .ref nl, .ref nh, .ref nb, .ref nw, .int (nI (nv + (fmE es (n + 1) i).length)), .ref nt, .int tl, .int av, .int wr, .long rs])), (no, .inl (ty.1, 2000, .inl oM)), (nx, .inl (ty.1, 2000, .inl aM)), (ny, .inl (ty.1, 2000, .inl bM)), (nw, .inl (ty.1, 400, .inl (zN (apL pb nv (fmE es (n + 1) i)))))])) := by
  refine g_ofUv (cc := cX6_putEntry) (nL := 3) (own := RX6) (by decide) rfl rfl g_XN_ok (Nat.le_of_ble_eq_true rfl) ?_
  intro p e s m args below meth c Q A C hA hX hin hR
  refine g_lv (lv' := [(0, .ref n0), (1, .int (nI i))]) [0, 1] rfl ?_
  obtain ⟨tS, hZ, hT⟩ := hX.2.2.2.2
  obtain ⟨hc6, hk⟩ := hwf i hi
  refine g_aload_n C dX6_putEntry_0 0 rfl rfl ?_
  refine g_get C 0 rfl rfl 8 (by decide) (fun _ h => (List.mem_cons_of_mem _ (List.mem_append_right _ h))) 1 rfl rfl rfl dX6_putEntry_1 ?_
  refine g_iload_n C dX6_putEntry_4 1 rfl rfl ?_
  refine g_iald C (v := (eO es i)) 1 rfl (by omega) (by omega) (hr0 i hi).1 dX6_putEntry_5 ?_
  refine g_istore_n C dX6_putEntry_6 rfl (by decide) (lv' := [(2, .int (eO es i)), (0, .ref n0), (1, .int (nI i))]) rfl ?_
  refine g_iload_n C dX6_putEntry_7 0 rfl rfl ?_
  refine g_iconst C dX6_putEntry_8 (v := (-1)) (by decide) ?_
  refine g_icmp_ne C dX6_putEntry_9 (tgt := 21) (by decide) (fun h9 => ?_) (fun h9 => ?_)
  · skip
    refine g_iload_n C dX6_putEntry_21 0 rfl rfl ?_
    refine g_bipush C dX6_putEntry_22 (v := (-2)) (by decide) ?_
    refine g_icmp_ne C dX6_putEntry_24 (tgt := 63) (by decide) (fun h24 => ?_) (fun h24 => ?_)
    · skip
      refine g_iload_n C dX6_putEntry_63 0 rfl rfl ?_
      refine g_iconst C dX6_putEntry_64 (v := (nI 4)) (by decide) ?_
      refine g_icmp_lt C dX6_putEntry_65 (tgt := 78) (by decide) (fun h65 => ?_) (fun h65 => ?_)
      · skip
        rw [nI_toInt (by omega)] at h65
        obtain ⟨o, a, ho, hoe, ha, hae, hbe, hcc⟩ : ∃ o a, o < 4 ∧ eO es i = nI o ∧ a < i ∧ eA es i = nI a ∧ eB es i = -1 ∧ eC es a + 1 ≤ eC es i := by
          rcases hk with ⟨z, -⟩ | ⟨z, -⟩ | z | ⟨o, a, b, z1, z2, z3, -⟩
          · exact absurd (t_eq.mp z) h9
          · exact absurd (t_eq.mp z) h24
          · exact z
          · have zz := nI_toInt (n := o) (by omega); rw [z3] at h65; omega
        have hL := fm_1 (n := n) ho hoe hae (by omega)
        rw [hL] at hbl
        have hbl2 : nv + ((agE es n a).length + 1) ≤ 30 := hbl
        rw [hoe]
        refine g_aload_n C dX6_putEntry_78 1 rfl rfl ?_
        refine g_gets C hZ 3 rfl rfl dX6_putEntry_79 ?_
        refine g_iload_n C dX6_putEntry_82 0 rfl rfl ?_
        refine g_ti C hT (by omega) (by decide) rfl dX6_putEntry_83 ?_
        refine g_callUV C ⟨g_X0_ok, trivial⟩ (t_X6_put l D ty n0 np na nc nf nq no nx ny nl nh nb nw nt th cp tl av wr rs (nI es.length) pb nv (sgn o) (by omega)) rfl gX6_putEntry_X6_put 1 (by decide +kernel) rfl ⟨rfl, rfl⟩ ⟨Nat.le_of_ble_eq_true rfl, Nat.le_of_ble_eq_true rfl⟩ (rest := []) (q0 := 0) rfl rfl hA [0, 4] [1, 2, 3] rfl rfl rfl (wr := [(no, .inl (ty.1, 2000, .inl oM)), (nx, .inl (ty.1, 2000, .inl aM)), (ny, .inl (ty.1, 2000, .inl bM))]) rfl rfl rfl (Nat.le_of_ble_eq_true rfl) dX6_putEntry_84 ⟨Nat.le_of_ble_eq_true rfl, Nat.le_of_ble_eq_true rfl⟩ rfl (g_kuv (fun w hr => ?_))
        subst hr
        refine g_ws (ws' := [(n0, .inr (5, [.int th, .ref np, .ref na, .int cp, .ref nc, .int (nI es.length), .ref nf, .ref nq, .ref no, .ref nx, .ref ny, .ref nl, .ref nh, .ref nb, .ref nw, .int (nI (nv + 1)), .ref nt, .int tl, .int av, .int wr, .long rs])), (no, .inl (ty.1, 2000, .inl oM)), (nx, .inl (ty.1, 2000, .inl aM)), (ny, .inl (ty.1, 2000, .inl bM)), (nw, .inl (ty.1, 400, .inl (zN (va_up pb nv (sgn o)))))]) [3, 0, 1, 2, 4] rfl rfl rfl ?_
        refine g_aload_n C dX6_putEntry_87 1 rfl rfl ?_
        refine g_iload_n C dX6_putEntry_88 0 rfl rfl ?_
        refine g_iconst C dX6_putEntry_89 (v := (nI 4)) (by decide) ?_
        refine g_icmp_ltN C dX6_putEntry_90 (tgt := 102) (by decide) (by omega) (by omega) (fun h90 => ?_) (fun h90 => ?_)
        · skip
          refine g_aload_n C dX6_putEntry_102 1 rfl rfl ?_
          refine g_get C 0 rfl rfl 9 (by decide) (fun _ h => (List.mem_cons_of_mem _ (List.mem_append_right _ h))) 2 rfl rfl rfl dX6_putEntry_103 ?_
          refine g_iload_n C dX6_putEntry_106 2 rfl rfl ?_
          refine g_iald C (v := (nI a)) 2 rfl (by omega) (by omega) ((hr0 i hi).2.1.trans hae) dX6_putEntry_107 ?_
          refine g_callUV C hX (hA1 (va_up pb nv (sgn o)) (nv + 1) a (by omega) (by omega) (by omega)) rfl gX6_putEntry_X6_putArgument 1 (by decide +kernel) rfl ⟨rfl, rfl⟩ ⟨by show _ ≤ _; simp only []; omega, by show _ ≤ _; simp only []; omega⟩ (rest := []) (q0 := 0) rfl rfl hA [0, 1, 2, 3, 4] [] rfl rfl rfl (wr := []) rfl rfl rfl (Nat.le_of_ble_eq_true rfl) dX6_putEntry_108 ⟨Nat.le_of_ble_eq_true rfl, Nat.le_of_ble_eq_true rfl⟩ rfl (g_kuv (fun w hr => ?_))
          subst hr
          refine g_ws (ws' := [(n0, .inr (5, [.int th, .ref np, .ref na, .int cp, .ref nc, .int (nI es.length), .ref nf, .ref nq, .ref no, .ref nx, .ref ny, .ref nl, .ref nh, .ref nb, .ref nw, .int (nI ((nv + 1) + (agE es n a).length)), .ref nt, .int tl, .int av, .int wr, .long rs])), (no, .inl (ty.1, 2000, .inl oM)), (nx, .inl (ty.1, 2000, .inl aM)), (ny, .inl (ty.1, 2000, .inl bM)), (nw, .inl (ty.1, 400, .inl (zN (apL (va_up pb nv (sgn o)) (nv + 1) (agE es n a)))))]) [0, 1, 2, 3, 4] rfl rfl rfl ?_
          refine hR _ _ _ _ _ dX6_putEntry_111 ?_ (by omega) (by omega)
          first
          | (rw [hL, e2, apL_app]; rfl)
          | (rw [hL, show nv + (sgn o :: agE es n a).length = nv + 1 + (agE es n a).length from by simp; omega]; rfl)
          | (rw [hL, ← hn2, ← hp2]; rfl)
          | (rw [hL] <;> rfl)
        · skip
          exact absurd h90 (by omega)
      · skip
        rw [nI_toInt (by omega)] at h65
        obtain ⟨o, a, b, ho, ho2, hoe, ha, hae, hb, hbe, hcc⟩ : ∃ o a b, 4 ≤ o ∧ o < 10 ∧ eO es i = nI o ∧ a < i ∧ eA es i = nI a ∧ b < i ∧ eB es i = nI b ∧ eC es a + eC es b + 1 ≤ eC es i := by
          rcases hk with ⟨z, -⟩ | ⟨z, -⟩ | ⟨o, a, z1, z2, -⟩ | z
          · exact absurd (t_eq.mp z) h9
          · exact absurd (t_eq.mp z) h24
          · have zz := nI_toInt (n := o) (by omega); rw [z2] at h65; omega
          · exact z
        have hL := fm_2 (n := n) ho ho2 hoe hae hbe (by omega) (by omega)
        rw [hL] at hbl
        have e2 : nv + (agE es n a ++ sgn o :: agE es n b).length = nv + (agE es n a).length + 1 + (agE es n b).length := by simp; omega
        rw [e2] at hbl
        rw [hoe]
        refine g_aload_n C dX6_putEntry_68 1 rfl rfl ?_
        refine g_aload_n C dX6_putEntry_69 1 rfl rfl ?_
        refine g_get C 0 rfl rfl 9 (by decide) (fun _ h => (List.mem_cons_of_mem _ (List.mem_append_right _ h))) 2 rfl rfl rfl dX6_putEntry_70 ?_
        refine g_iload_n C dX6_putEntry_73 2 rfl rfl ?_
        refine g_iald C (v := (nI a)) 2 rfl (by omega) (by omega) ((hr0 i hi).2.1.trans hae) dX6_putEntry_74 ?_
        refine g_callUV C hX (hA1 pb nv a (by omega) (by omega) (by omega)) rfl gX6_putEntry_X6_putArgument 1 (by decide +kernel) rfl ⟨rfl, rfl⟩ ⟨by show _ ≤ _; simp only []; omega, by show _ ≤ _; simp only []; omega⟩ (rest := []) (q0 := 0) rfl rfl hA [0, 1, 2, 3, 4] [] rfl rfl rfl (wr := []) rfl rfl rfl (Nat.le_of_ble_eq_true rfl) dX6_putEntry_75 ⟨Nat.le_of_ble_eq_true rfl, Nat.le_of_ble_eq_true rfl⟩ rfl (g_kuv (fun w hr => ?_))
        subst hr
        refine g_ws (ws' := [(n0, .inr (5, [.int th, .ref np, .ref na, .int cp, .ref nc, .int (nI es.length), .ref nf, .ref nq, .ref no, .ref nx, .ref ny, .ref nl, .ref nh, .ref nb, .ref nw, .int (nI (nv + (agE es n a).length)), .ref nt, .int tl, .int av, .int wr, .long rs])), (no, .inl (ty.1, 2000, .inl oM)), (nx, .inl (ty.1, 2000, .inl aM)), (ny, .inl (ty.1, 2000, .inl bM)), (nw, .inl (ty.1, 400, .inl (zN (apL pb nv (agE es n a)))))]) [0, 1, 2, 3, 4] rfl rfl rfl ?_
        refine g_aload_n C dX6_putEntry_78 1 rfl rfl ?_
        refine g_gets C hZ 3 rfl rfl dX6_putEntry_79 ?_
        refine g_iload_n C dX6_putEntry_82 0 rfl rfl ?_
        refine g_ti C hT (by omega) (by decide) rfl dX6_putEntry_83 ?_
        refine g_callUV C ⟨g_X0_ok, trivial⟩ (t_X6_put l D ty n0 np na nc nf nq no nx ny nl nh nb nw nt th cp tl av wr rs (nI es.length) (apL pb nv (agE es n a)) (nv + (agE es n a).length) (sgn o) (by omega)) rfl gX6_putEntry_X6_put 1 (by decide +kernel) rfl ⟨rfl, rfl⟩ ⟨Nat.le_of_ble_eq_true rfl, Nat.le_of_ble_eq_true rfl⟩ (rest := []) (q0 := 0) rfl rfl hA [0, 4] [1, 2, 3] rfl rfl rfl (wr := [(no, .inl (ty.1, 2000, .inl oM)), (nx, .inl (ty.1, 2000, .inl aM)), (ny, .inl (ty.1, 2000, .inl bM))]) rfl rfl rfl (Nat.le_of_ble_eq_true rfl) dX6_putEntry_84 ⟨Nat.le_of_ble_eq_true rfl, Nat.le_of_ble_eq_true rfl⟩ rfl (g_kuv (fun w hr => ?_))
        subst hr
        refine g_ws (ws' := [(n0, .inr (5, [.int th, .ref np, .ref na, .int cp, .ref nc, .int (nI es.length), .ref nf, .ref nq, .ref no, .ref nx, .ref ny, .ref nl, .ref nh, .ref nb, .ref nw, .int (nI ((nv + (agE es n a).length) + 1)), .ref nt, .int tl, .int av, .int wr, .long rs])), (no, .inl (ty.1, 2000, .inl oM)), (nx, .inl (ty.1, 2000, .inl aM)), (ny, .inl (ty.1, 2000, .inl bM)), (nw, .inl (ty.1, 400, .inl (zN (va_up (apL pb nv (agE es n a)) (nv + (agE es n a).length) (sgn o)))))]) [3, 0, 1, 2, 4] rfl rfl rfl ?_
        refine g_aload_n C dX6_putEntry_87 1 rfl rfl ?_
        refine g_iload_n C dX6_putEntry_88 0 rfl rfl ?_
        refine g_iconst C dX6_putEntry_89 (v := (nI 4)) (by decide) ?_
        refine g_icmp_ltN C dX6_putEntry_90 (tgt := 102) (by decide) (by omega) (by omega) (fun h90 => ?_) (fun h90 => ?_)
        · skip
          exact absurd h90 (by omega)
        · skip
          refine g_aload_n C dX6_putEntry_93 1 rfl rfl ?_
          refine g_get C 0 rfl rfl 10 (by decide) (fun _ h => (List.mem_cons_of_mem _ (List.mem_append_right _ h))) 4 rfl rfl rfl dX6_putEntry_94 ?_
          refine g_iload_n C dX6_putEntry_97 2 rfl rfl ?_
          refine g_iald C (v := (nI b)) 3 rfl (by omega) (by omega) ((hr0 i hi).2.2.trans hbe) dX6_putEntry_98 ?_
          refine g_goto C dX6_putEntry_99 (tgt := 108) (by decide) ?_
          refine g_callUV C hX (hA1 (va_up (apL pb nv (agE es n a)) (nv + (agE es n a).length) (sgn o)) ((nv + (agE es n a).length) + 1) b (by omega) (by omega) (by omega)) rfl gX6_putEntry_X6_putArgument 1 (by decide +kernel) rfl ⟨rfl, rfl⟩ ⟨by show _ ≤ _; simp only []; omega, by show _ ≤ _; simp only []; omega⟩ (rest := []) (q0 := 0) rfl rfl hA [0, 1, 2, 3, 4] [] rfl rfl rfl (wr := []) rfl rfl rfl (Nat.le_of_ble_eq_true rfl) dX6_putEntry_108 ⟨Nat.le_of_ble_eq_true rfl, Nat.le_of_ble_eq_true rfl⟩ rfl (g_kuv (fun w hr => ?_))
          subst hr
          refine g_ws (ws' := [(n0, .inr (5, [.int th, .ref np, .ref na, .int cp, .ref nc, .int (nI es.length), .ref nf, .ref nq, .ref no, .ref nx, .ref ny, .ref nl, .ref nh, .ref nb, .ref nw, .int (nI (((nv + (agE es n a).length) + 1) + (agE es n b).length)), .ref nt, .int tl, .int av, .int wr, .long rs])), (no, .inl (ty.1, 2000, .inl oM)), (nx, .inl (ty.1, 2000, .inl aM)), (ny, .inl (ty.1, 2000, .inl bM)), (nw, .inl (ty.1, 400, .inl (zN (apL (va_up (apL pb nv (agE es n a)) (nv + (agE es n a).length) (sgn o)) ((nv + (agE es n a).length) + 1) (agE es n b)))))]) [0, 1, 2, 3, 4] rfl rfl rfl ?_
          refine hR _ _ _ _ _ dX6_putEntry_111 ?_ (by omega) (by omega)
          first
          | (rw [hL, e2, apL_app]; rfl)
          | (rw [hL, show nv + (sgn o :: agE es n a).length = nv + 1 + (agE es n a).length from by simp; omega]; rfl)
          | (rw [hL, ← hn2, ← hp2]; rfl)
          | (rw [hL] <;> rfl)
    · skip
      obtain ⟨v, hv, hva⟩ : ∃ v, v < 16 ∧ eA es i = nI v := by
        rcases hk with ⟨z, -⟩ | ⟨-, z, -⟩ | ⟨o, a, z1, z2, -⟩ | ⟨o, a, b, z1, z2, z3, -⟩
        · exact absurd (t_eq.mp z) h9
        · exact z
        · exact absurd (z2.symm.trans (t_eq.mpr h24)) (nI_m2 (by omega))
        · exact absurd (z3.symm.trans (t_eq.mpr h24)) (nI_m2 (by omega))
      have hL := fm_c (n := n) (t_eq.mpr h24) hva hv
      rw [hL] at hbl
      have hlen9 : (nmL v).length = if 10 ≤ v then 2 else 1 := by unfold nmL; split <;> rfl
      refine g_aload_n C dX6_putEntry_27 1 rfl rfl ?_
      refine g_get C 0 rfl rfl 9 (by decide) (fun _ h => (List.mem_cons_of_mem _ (List.mem_append_right _ h))) 2 rfl rfl rfl dX6_putEntry_28 ?_
      refine g_iload_n C dX6_putEntry_31 2 rfl rfl ?_
      refine g_iald C (v := (nI v)) 2 rfl (by omega) (by omega) ((hr0 i hi).2.1.trans hva) dX6_putEntry_32 ?_
      refine g_bipush C dX6_putEntry_33 (v := (nI 9)) (by decide) ?_
      refine g_icmp_leN C dX6_putEntry_35 (tgt := 44) (by decide) (by omega) (by omega) (fun h35 => ?_) (fun h35 => ?_)
      · skip
        have L44 : ∀ (n9 : Nat) (pb2 : Nat → Nat) (n2 : Nat), 0 < n9 → (n2 + 1 = nv + (nmL v).length) → (apL pb2 n2 [48 + v % 10] = apL pb nv (nmL v)) → gG (g_IU A D s) p l e ({ frames := 3 * (n + 1) + 10, cells := 0, slots := 0, locals := 100 * (n + 1) + 200 } : Room) s m args below meth c Q 3 0 0 44 [(2, .int (eO es i)), (0, .ref n0), (1, .int (nI i))] [] [(n0, .inr (5, [.int th, .ref np, .ref na, .int cp, .ref nc, .int (nI es.length), .ref nf, .ref nq, .ref no, .ref nx, .ref ny, .ref nl, .ref nh, .ref nb, .ref nw, .int (nI n2), .ref nt, .int tl, .int av, .int wr, .long rs])), (no, .inl (ty.1, 2000, .inl oM)), (nx, .inl (ty.1, 2000, .inl aM)), (ny, .inl (ty.1, 2000, .inl bM)), (nw, .inl (ty.1, 400, .inl (zN pb2)))] := by
          intro n9
          induction n9 with
          | zero => intro pb2 n2 hn; exact absurd hn (Nat.not_lt_zero _)
          | succ n9 ih44 =>
            intro pb2 n2 hn44 hn2 hp2
            refine g_aload_n C dX6_putEntry_44 1 rfl rfl ?_
            refine g_bipush C dX6_putEntry_45 (v := (nI 48)) (by decide) ?_
            refine g_aload_n C dX6_putEntry_47 1 rfl rfl ?_
            refine g_get C 0 rfl rfl 9 (by decide) (fun _ h => (List.mem_cons_of_mem _ (List.mem_append_right _ h))) 2 rfl rfl rfl dX6_putEntry_48 ?_
            refine g_iload_n C dX6_putEntry_51 2 rfl rfl ?_
            refine g_iald C (v := (nI v)) 2 rfl (by omega) (by omega) ((hr0 i hi).2.1.trans hva) dX6_putEntry_52 ?_
            refine g_bipush C dX6_putEntry_53 (v := (nI 10)) (by decide) ?_
            refine g_irem C dX6_putEntry_55 (by decide) (v := (nI (v % 10))) (pk_rem (by omega) (by decide) (by decide)) ?_
            refine g_iadd C dX6_putEntry_56 (v := (nI (48 + (v % 10)))) (nI_add _ _) ?_
            refine g_callUV C ⟨g_X0_ok, trivial⟩ (t_X6_put l D ty n0 np na nc nf nq no nx ny nl nh nb nw nt th cp tl av wr rs (nI es.length) pb2 n2 (48 + (v % 10)) (by omega)) rfl gX6_putEntry_X6_put 1 (by decide +kernel) rfl ⟨rfl, rfl⟩ ⟨Nat.le_of_ble_eq_true rfl, Nat.le_of_ble_eq_true rfl⟩ (rest := []) (q0 := 0) rfl rfl hA [0, 4] [1, 2, 3] rfl rfl rfl (wr := [(no, .inl (ty.1, 2000, .inl oM)), (nx, .inl (ty.1, 2000, .inl aM)), (ny, .inl (ty.1, 2000, .inl bM))]) rfl rfl rfl (Nat.le_of_ble_eq_true rfl) dX6_putEntry_57 ⟨Nat.le_of_ble_eq_true rfl, Nat.le_of_ble_eq_true rfl⟩ rfl (g_kuv (fun w hr => ?_))
            subst hr
            refine g_ws (ws' := [(n0, .inr (5, [.int th, .ref np, .ref na, .int cp, .ref nc, .int (nI es.length), .ref nf, .ref nq, .ref no, .ref nx, .ref ny, .ref nl, .ref nh, .ref nb, .ref nw, .int (nI (n2 + 1)), .ref nt, .int tl, .int av, .int wr, .long rs])), (no, .inl (ty.1, 2000, .inl oM)), (nx, .inl (ty.1, 2000, .inl aM)), (ny, .inl (ty.1, 2000, .inl bM)), (nw, .inl (ty.1, 400, .inl (zN (va_up pb2 n2 (48 + (v % 10))))))]) [3, 0, 1, 2, 4] rfl rfl rfl ?_
            refine g_goto C dX6_putEntry_60 (tgt := 111) (by decide) ?_
            refine hR _ _ _ _ _ dX6_putEntry_111 ?_ (by omega) (by omega)
            first
            | (rw [hL, e2, apL_app]; rfl)
            | (rw [hL, show nv + (sgn o :: agE es n a).length = nv + 1 + (agE es n a).length from by simp; omega]; rfl)
            | (rw [hL, ← hn2, ← hp2]; rfl)
            | (rw [hL] <;> rfl)
        exact L44 _ pb nv (Nat.lt_succ_self _) (by first | (rw [show nmL v = [48 + v / 10, 48 + v % 10] from if_pos (by omega)]; rfl) | (rw [show nmL v = [48 + v % 10] from if_neg (by omega)]; rfl)) (by first | (rw [show nmL v = [48 + v / 10, 48 + v % 10] from if_pos (by omega), show v / 10 = 1 by omega]; rfl) | (rw [show nmL v = [48 + v % 10] from if_neg (by omega)]))
      · skip
        rw [if_pos (by omega)] at hlen9
        refine g_aload_n C dX6_putEntry_38 1 rfl rfl ?_
        refine g_bipush C dX6_putEntry_39 (v := (nI 49)) (by decide) ?_
        refine g_callUV C ⟨g_X0_ok, trivial⟩ (t_X6_put l D ty n0 np na nc nf nq no nx ny nl nh nb nw nt th cp tl av wr rs (nI es.length) pb nv 49 (by omega)) rfl gX6_putEntry_X6_put 1 (by decide +kernel) rfl ⟨rfl, rfl⟩ ⟨Nat.le_of_ble_eq_true rfl, Nat.le_of_ble_eq_true rfl⟩ (rest := []) (q0 := 0) rfl rfl hA [0, 4] [1, 2, 3] rfl rfl rfl (wr := [(no, .inl (ty.1, 2000, .inl oM)), (nx, .inl (ty.1, 2000, .inl aM)), (ny, .inl (ty.1, 2000, .inl bM))]) rfl rfl rfl (Nat.le_of_ble_eq_true rfl) dX6_putEntry_41 ⟨Nat.le_of_ble_eq_true rfl, Nat.le_of_ble_eq_true rfl⟩ rfl (g_kuv (fun w hr => ?_))
        subst hr
        refine g_ws (ws' := [(n0, .inr (5, [.int th, .ref np, .ref na, .int cp, .ref nc, .int (nI es.length), .ref nf, .ref nq, .ref no, .ref nx, .ref ny, .ref nl, .ref nh, .ref nb, .ref nw, .int (nI (nv + 1)), .ref nt, .int tl, .int av, .int wr, .long rs])), (no, .inl (ty.1, 2000, .inl oM)), (nx, .inl (ty.1, 2000, .inl aM)), (ny, .inl (ty.1, 2000, .inl bM)), (nw, .inl (ty.1, 400, .inl (zN (va_up pb nv 49))))]) [3, 0, 1, 2, 4] rfl rfl rfl ?_
        have L44 : ∀ (n9 : Nat) (pb2 : Nat → Nat) (n2 : Nat), 0 < n9 → (n2 + 1 = nv + (nmL v).length) → (apL pb2 n2 [48 + v % 10] = apL pb nv (nmL v)) → gG (g_IU A D s) p l e ({ frames := 3 * (n + 1) + 10, cells := 0, slots := 0, locals := 100 * (n + 1) + 200 } : Room) s m args below meth c Q 3 0 0 44 [(2, .int (eO es i)), (0, .ref n0), (1, .int (nI i))] [] [(n0, .inr (5, [.int th, .ref np, .ref na, .int cp, .ref nc, .int (nI es.length), .ref nf, .ref nq, .ref no, .ref nx, .ref ny, .ref nl, .ref nh, .ref nb, .ref nw, .int (nI n2), .ref nt, .int tl, .int av, .int wr, .long rs])), (no, .inl (ty.1, 2000, .inl oM)), (nx, .inl (ty.1, 2000, .inl aM)), (ny, .inl (ty.1, 2000, .inl bM)), (nw, .inl (ty.1, 400, .inl (zN pb2)))] := by
          intro n9
          induction n9 with
          | zero => intro pb2 n2 hn; exact absurd hn (Nat.not_lt_zero _)
          | succ n9 ih44 =>
            intro pb2 n2 hn44 hn2 hp2
            refine g_aload_n C dX6_putEntry_44 1 rfl rfl ?_
            refine g_bipush C dX6_putEntry_45 (v := (nI 48)) (by decide) ?_
            refine g_aload_n C dX6_putEntry_47 1 rfl rfl ?_
            refine g_get C 0 rfl rfl 9 (by decide) (fun _ h => (List.mem_cons_of_mem _ (List.mem_append_right _ h))) 2 rfl rfl rfl dX6_putEntry_48 ?_
            refine g_iload_n C dX6_putEntry_51 2 rfl rfl ?_
            refine g_iald C (v := (nI v)) 2 rfl (by omega) (by omega) ((hr0 i hi).2.1.trans hva) dX6_putEntry_52 ?_
            refine g_bipush C dX6_putEntry_53 (v := (nI 10)) (by decide) ?_
            refine g_irem C dX6_putEntry_55 (by decide) (v := (nI (v % 10))) (pk_rem (by omega) (by decide) (by decide)) ?_
            refine g_iadd C dX6_putEntry_56 (v := (nI (48 + (v % 10)))) (nI_add _ _) ?_
            refine g_callUV C ⟨g_X0_ok, trivial⟩ (t_X6_put l D ty n0 np na nc nf nq no nx ny nl nh nb nw nt th cp tl av wr rs (nI es.length) pb2 n2 (48 + (v % 10)) (by omega)) rfl gX6_putEntry_X6_put 1 (by decide +kernel) rfl ⟨rfl, rfl⟩ ⟨Nat.le_of_ble_eq_true rfl, Nat.le_of_ble_eq_true rfl⟩ (rest := []) (q0 := 0) rfl rfl hA [0, 4] [1, 2, 3] rfl rfl rfl (wr := [(no, .inl (ty.1, 2000, .inl oM)), (nx, .inl (ty.1, 2000, .inl aM)), (ny, .inl (ty.1, 2000, .inl bM))]) rfl rfl rfl (Nat.le_of_ble_eq_true rfl) dX6_putEntry_57 ⟨Nat.le_of_ble_eq_true rfl, Nat.le_of_ble_eq_true rfl⟩ rfl (g_kuv (fun w hr => ?_))
            subst hr
            refine g_ws (ws' := [(n0, .inr (5, [.int th, .ref np, .ref na, .int cp, .ref nc, .int (nI es.length), .ref nf, .ref nq, .ref no, .ref nx, .ref ny, .ref nl, .ref nh, .ref nb, .ref nw, .int (nI (n2 + 1)), .ref nt, .int tl, .int av, .int wr, .long rs])), (no, .inl (ty.1, 2000, .inl oM)), (nx, .inl (ty.1, 2000, .inl aM)), (ny, .inl (ty.1, 2000, .inl bM)), (nw, .inl (ty.1, 400, .inl (zN (va_up pb2 n2 (48 + (v % 10))))))]) [3, 0, 1, 2, 4] rfl rfl rfl ?_
            refine g_goto C dX6_putEntry_60 (tgt := 111) (by decide) ?_
            refine hR _ _ _ _ _ dX6_putEntry_111 ?_ (by omega) (by omega)
            first
            | (rw [hL, e2, apL_app]; rfl)
            | (rw [hL, show nv + (sgn o :: agE es n a).length = nv + 1 + (agE es n a).length from by simp; omega]; rfl)
            | (rw [hL, ← hn2, ← hp2]; rfl)
            | (rw [hL] <;> rfl)
        exact L44 _ (va_up pb nv 49) (nv + 1) (Nat.lt_succ_self _) (by first | (rw [show nmL v = [48 + v / 10, 48 + v % 10] from if_pos (by omega)]; rfl) | (rw [show nmL v = [48 + v % 10] from if_neg (by omega)]; rfl)) (by first | (rw [show nmL v = [48 + v / 10, 48 + v % 10] from if_pos (by omega), show v / 10 = 1 by omega]; rfl) | (rw [show nmL v = [48 + v % 10] from if_neg (by omega)]))
  · skip
    have hL := fm_x (n := n) (t_eq.mpr h9)
    rw [hL] at hbl
    have hbl2 : nv + 1 ≤ 30 := hbl
    refine g_aload_n C dX6_putEntry_12 1 rfl rfl ?_
    refine g_bipush C dX6_putEntry_13 (v := (nI 120)) (by decide) ?_
    refine g_callUV C ⟨g_X0_ok, trivial⟩ (t_X6_put l D ty n0 np na nc nf nq no nx ny nl nh nb nw nt th cp tl av wr rs (nI es.length) pb nv 120 (by omega)) rfl gX6_putEntry_X6_put 1 (by decide +kernel) rfl ⟨rfl, rfl⟩ ⟨Nat.le_of_ble_eq_true rfl, Nat.le_of_ble_eq_true rfl⟩ (rest := []) (q0 := 0) rfl rfl hA [0, 4] [1, 2, 3] rfl rfl rfl (wr := [(no, .inl (ty.1, 2000, .inl oM)), (nx, .inl (ty.1, 2000, .inl aM)), (ny, .inl (ty.1, 2000, .inl bM))]) rfl rfl rfl (Nat.le_of_ble_eq_true rfl) dX6_putEntry_15 ⟨Nat.le_of_ble_eq_true rfl, Nat.le_of_ble_eq_true rfl⟩ rfl (g_kuv (fun w hr => ?_))
    subst hr
    refine g_ws (ws' := [(n0, .inr (5, [.int th, .ref np, .ref na, .int cp, .ref nc, .int (nI es.length), .ref nf, .ref nq, .ref no, .ref nx, .ref ny, .ref nl, .ref nh, .ref nb, .ref nw, .int (nI (nv + 1)), .ref nt, .int tl, .int av, .int wr, .long rs])), (no, .inl (ty.1, 2000, .inl oM)), (nx, .inl (ty.1, 2000, .inl aM)), (ny, .inl (ty.1, 2000, .inl bM)), (nw, .inl (ty.1, 400, .inl (zN (va_up pb nv 120))))]) [3, 0, 1, 2, 4] rfl rfl rfl ?_
    refine g_goto C dX6_putEntry_18 (tgt := 111) (by decide) ?_
    refine hR _ _ _ _ _ dX6_putEntry_111 ?_ (by omega) (by omega)
    first
    | (rw [hL, e2, apL_app]; rfl)
    | (rw [hL, show nv + (sgn o :: agE es n a).length = nv + 1 + (agE es n a).length from by simp; omega]; rfl)
    | (rw [hL, ← hn2, ← hp2]; rfl)
    | (rw [hL] <;> rfl)


set_option maxHeartbeats 4000000 in
set_option maxRecDepth 100000 in
theorem t_X6_putArgument (l : Launch) (D : va_G) (ty : g_T3) (n0 np na nc nf nq no nx ny nl nh nb nw nt : Nat) (th cp tl av wr : Int32) (rs : Int64) (es : List Ent) (oM aM bM : Nat → Int32) (hr0 : ∀ i, i < es.length → oM i = eO es i ∧ aM i = eA es i ∧ bM i = eB es i) (hwf : wfE es) (hl0 : es.length ≤ 2000) (n : Nat) (hE1 : ∀ (pb : Nat → Nat) (nv x : Nat), x < es.length → eC es x < n → nv + (fmE es n x).length ≤ 30 → g_U l yX6_putEntry wsX6_putEntry ({ frames := 3 * n + 10, cells := 0, slots := 0, locals := 100 * n + 200 } : Room) D ty g_XN [.ref n0, .int (nI x)] [(n0, .inr (5, [.int th, .ref np, .ref na, .int cp, .ref nc, .int (nI es.length), .ref nf, .ref nq, .ref no, .ref nx, .ref ny, .ref nl, .ref nh, .ref nb, .ref nw, .int (nI nv), .ref nt, .int tl, .int av, .int wr, .long rs])), (no, .inl (ty.1, 2000, .inl oM)), (nx, .inl (ty.1, 2000, .inl aM)), (ny, .inl (ty.1, 2000, .inl bM)), (nw, .inl (ty.1, 400, .inl (zN pb)))] 0 0 (g_uv (fun w => w = [(n0, .inr (5, [.int th, .ref np, .ref na, .int cp, .ref nc, .int (nI es.length), .ref nf, .ref nq, .ref no, .ref nx, .ref ny, .ref nl, .ref nh, .ref nb, .ref nw, .int (nI (nv + (fmE es n x).length)), .ref nt, .int tl, .int av, .int wr, .long rs])), (no, .inl (ty.1, 2000, .inl oM)), (nx, .inl (ty.1, 2000, .inl aM)), (ny, .inl (ty.1, 2000, .inl bM)), (nw, .inl (ty.1, 400, .inl (zN (apL pb nv (fmE es n x)))))]))) (pb : Nat → Nat) (nv x : Nat) (hi : x < es.length) (hci : eC es x < n) (hbl : nv + (agE es n x).length ≤ 30) : g_U l yX6_putArgument wsX6_putArgument ({ frames := 3 * n + 11, cells := 0, slots := 0, locals := 100 * n + 260 } : Room) D ty g_XN [.ref n0, .int (nI x)] [(n0, .inr (5, [.int th, .ref np, .ref na, .int cp, .ref nc, .int (nI es.length), .ref nf, .ref nq, .ref no, .ref nx, .ref ny, .ref nl, .ref nh, .ref nb, .ref nw, .int (nI nv), .ref nt, .int tl, .int av, .int wr, .long rs])), (no, .inl (ty.1, 2000, .inl oM)), (nx, .inl (ty.1, 2000, .inl aM)), (ny, .inl (ty.1, 2000, .inl bM)), (nw, .inl (ty.1, 400, .inl (zN pb)))] 0 0 (g_uv (fun w => w = [(n0, .inr (5, [.int th, .ref np, .ref na, .int cp, .ref nc, .int (nI es.length), .ref nf, .ref nq, .ref no, .ref nx, .ref ny, .ref nl, .ref nh, .ref nb, .ref nw, .int (nI (nv + (agE es n x).length)), .ref nt, .int tl, .int av, .int wr, .long rs])), (no, .inl (ty.1, 2000, .inl oM)), (nx, .inl (ty.1, 2000, .inl aM)), (ny, .inl (ty.1, 2000, .inl bM)), (nw, .inl (ty.1, 400, .inl (zN (apL pb nv (agE es n x)))))])) := by
  refine g_ofUv (cc := cX6_putArgument) (nL := 3) (own := RX6) (by decide) rfl rfl g_XN_ok (Nat.le_of_ble_eq_true rfl) ?_
  intro p e s m args below meth c Q A C hA hX hin hR
  refine g_lv (lv' := [(0, .ref n0), (1, .int (nI x))]) [0, 1] rfl ?_
  refine g_aload_n C dX6_putArgument_0 0 rfl rfl ?_
  refine g_get C 0 rfl rfl 8 (by decide) (fun _ h => (List.mem_cons_of_mem _ (List.mem_append_right _ h))) 1 rfl rfl rfl dX6_putArgument_1 ?_
  refine g_iload_n C dX6_putArgument_4 1 rfl rfl ?_
  refine g_iald C (v := (eO es x)) 1 rfl (by omega) (by omega) (hr0 x hi).1 dX6_putArgument_5 ?_
  refine g_iconst C dX6_putArgument_6 (v := (nI 4)) (by decide) ?_
  refine g_icmp_lt C dX6_putArgument_7 (tgt := 14) (by decide) (fun h7 => ?_) (fun h7 => ?_)
  · skip
    rw [nI_toInt (by omega)] at h7
    have hT2 : isTwo es x = false := two_f (by omega)
    refine g_iconst C dX6_putArgument_14 (v := (nI ((isTwo es x).toNat))) (by rw [hT2]; rfl) ?_
    have L15 : ∀ (n9 : Nat) , 0 < n9 → gG (g_IU A D s) p l e ({ frames := 3 * n + 11, cells := 0, slots := 0, locals := 100 * n + 260 } : Room) s m args below meth c Q 3 0 0 15 [(0, .ref n0), (1, .int (nI x))] [.int (nI ((isTwo es x).toNat))] [(n0, .inr (5, [.int th, .ref np, .ref na, .int cp, .ref nc, .int (nI es.length), .ref nf, .ref nq, .ref no, .ref nx, .ref ny, .ref nl, .ref nh, .ref nb, .ref nw, .int (nI nv), .ref nt, .int tl, .int av, .int wr, .long rs])), (no, .inl (ty.1, 2000, .inl oM)), (nx, .inl (ty.1, 2000, .inl aM)), (ny, .inl (ty.1, 2000, .inl bM)), (nw, .inl (ty.1, 400, .inl (zN pb)))] := by
      intro n9
      induction n9 with
      | zero => intro  hn; exact absurd hn (Nat.not_lt_zero _)
      | succ n9 ih15 =>
        intro  hn15 
        refine g_istore_n C dX6_putArgument_15 rfl (by decide) (lv' := [(2, .int (nI ((isTwo es x).toNat))), (0, .ref n0), (1, .int (nI x))]) rfl ?_
        have hbt := bt_lt (isTwo es x)
        refine g_iload_n C dX6_putArgument_16 0 rfl rfl ?_
        refine g_if_eqN C dX6_putArgument_17 (tgt := 26) (by decide) (by omega) (fun h17 => ?_) (fun h17 => ?_)
        · skip
          have L26 : ∀ (n9 : Nat) (pb2 : Nat → Nat) (n2 : Nat), 0 < n9 → (((isTwo es x).toNat = 0 ∧ n2 = nv ∧ pb2 = pb) ∨ (¬ (isTwo es x).toNat = 0 ∧ n2 = nv + 1 ∧ pb2 = va_up pb nv 40)) → gG (g_IU A D s) p l e ({ frames := 3 * n + 11, cells := 0, slots := 0, locals := 100 * n + 260 } : Room) s m args below meth c Q 3 0 0 26 [(2, .int (nI ((isTwo es x).toNat))), (0, .ref n0), (1, .int (nI x))] [] [(n0, .inr (5, [.int th, .ref np, .ref na, .int cp, .ref nc, .int (nI es.length), .ref nf, .ref nq, .ref no, .ref nx, .ref ny, .ref nl, .ref nh, .ref nb, .ref nw, .int (nI n2), .ref nt, .int tl, .int av, .int wr, .long rs])), (no, .inl (ty.1, 2000, .inl oM)), (nx, .inl (ty.1, 2000, .inl aM)), (ny, .inl (ty.1, 2000, .inl bM)), (nw, .inl (ty.1, 400, .inl (zN pb2)))] := by
            intro n9
            induction n9 with
            | zero => intro pb2 n2 hn; exact absurd hn (Nat.not_lt_zero _)
            | succ n9 ih26 =>
              intro pb2 n2 hn26 h38a
              have hlen : n2 + (fmE es n x).length + (isTwo es x).toNat ≤ 30 := by
                rcases h38a with ⟨z1, z2, z3⟩ | ⟨z1, z2, z3⟩
                · have hL : agE es n x = fmE es n x := if_neg (b_f z1)
                  rw [hL] at hbl; omega
                · have hL : agE es n x = 40 :: fmE es n x ++ [41] := if_pos (b_t z1)
                  have hbt := bt_lt (isTwo es x)
                  rw [hL] at hbl; simp at hbl; omega
              refine g_aload_n C dX6_putArgument_26 1 rfl rfl ?_
              refine g_iload_n C dX6_putArgument_27 2 rfl rfl ?_
              refine g_callUV C hX (hE1 pb2 n2 x (by omega) (by omega) (by omega)) rfl gX6_putArgument_X6_putEntry 1 (by decide +kernel) rfl ⟨rfl, rfl⟩ ⟨by show _ ≤ _; simp only []; omega, by show _ ≤ _; simp only []; omega⟩ (rest := []) (q0 := 0) rfl rfl hA [0, 1, 2, 3, 4] [] rfl rfl rfl (wr := []) rfl rfl rfl (Nat.le_of_ble_eq_true rfl) dX6_putArgument_28 ⟨Nat.le_of_ble_eq_true rfl, Nat.le_of_ble_eq_true rfl⟩ rfl (g_kuv (fun w hr => ?_))
              subst hr
              refine g_ws (ws' := [(n0, .inr (5, [.int th, .ref np, .ref na, .int cp, .ref nc, .int (nI es.length), .ref nf, .ref nq, .ref no, .ref nx, .ref ny, .ref nl, .ref nh, .ref nb, .ref nw, .int (nI (n2 + (fmE es n x).length)), .ref nt, .int tl, .int av, .int wr, .long rs])), (no, .inl (ty.1, 2000, .inl oM)), (nx, .inl (ty.1, 2000, .inl aM)), (ny, .inl (ty.1, 2000, .inl bM)), (nw, .inl (ty.1, 400, .inl (zN (apL pb2 n2 (fmE es n x)))))]) [0, 1, 2, 3, 4] rfl rfl rfl ?_
              refine g_iload_n C dX6_putArgument_31 0 rfl rfl ?_
              have hbt9 := bt_lt (isTwo es x)
              refine g_if_eqN C dX6_putArgument_32 (tgt := 41) (by decide) (by omega) (fun h32 => ?_) (fun h32 => ?_)
              · skip
                have e3 : nv + (40 :: fmE es n x ++ [41]).length = nv + 1 + (fmE es n x).length + 1 := by simp; omega
                refine hR _ _ _ _ _ dX6_putArgument_41 ?_ (by omega) (by omega)
                rcases h38a with ⟨z1, z2, z3⟩ | ⟨z1, z2, z3⟩
                · first
                  | exact absurd z1 h32
                  | (rw [show agE es n x = fmE es n x from if_neg (b_f z1), z2, z3])
                · first
                  | exact absurd h32 z1
                  | (rw [show agE es n x = 40 :: fmE es n x ++ [41] from if_pos (b_t z1), z2, z3, e3]; rw [show apL pb nv (40 :: fmE es n x ++ [41]) = apL (va_up pb nv 40) (nv + 1) (fmE es n x ++ [41]) from rfl, apL_app]; rfl)
              · skip
                refine g_aload_n C dX6_putArgument_35 1 rfl rfl ?_
                refine g_bipush C dX6_putArgument_36 (v := (nI 41)) (by decide) ?_
                refine g_callUV C ⟨g_X0_ok, trivial⟩ (t_X6_put l D ty n0 np na nc nf nq no nx ny nl nh nb nw nt th cp tl av wr rs (nI es.length) (apL pb2 n2 (fmE es n x)) (n2 + (fmE es n x).length) 41 (by omega)) rfl gX6_putArgument_X6_put 1 (by decide +kernel) rfl ⟨rfl, rfl⟩ ⟨Nat.le_of_ble_eq_true rfl, Nat.le_of_ble_eq_true rfl⟩ (rest := []) (q0 := 0) rfl rfl hA [0, 4] [1, 2, 3] rfl rfl rfl (wr := [(no, .inl (ty.1, 2000, .inl oM)), (nx, .inl (ty.1, 2000, .inl aM)), (ny, .inl (ty.1, 2000, .inl bM))]) rfl rfl rfl (Nat.le_of_ble_eq_true rfl) dX6_putArgument_38 ⟨Nat.le_of_ble_eq_true rfl, Nat.le_of_ble_eq_true rfl⟩ rfl (g_kuv (fun w hr => ?_))
                subst hr
                refine g_ws (ws' := [(n0, .inr (5, [.int th, .ref np, .ref na, .int cp, .ref nc, .int (nI es.length), .ref nf, .ref nq, .ref no, .ref nx, .ref ny, .ref nl, .ref nh, .ref nb, .ref nw, .int (nI ((n2 + (fmE es n x).length) + 1)), .ref nt, .int tl, .int av, .int wr, .long rs])), (no, .inl (ty.1, 2000, .inl oM)), (nx, .inl (ty.1, 2000, .inl aM)), (ny, .inl (ty.1, 2000, .inl bM)), (nw, .inl (ty.1, 400, .inl (zN (va_up (apL pb2 n2 (fmE es n x)) (n2 + (fmE es n x).length) 41))))]) [3, 0, 1, 2, 4] rfl rfl rfl ?_
                have e3 : nv + (40 :: fmE es n x ++ [41]).length = nv + 1 + (fmE es n x).length + 1 := by simp; omega
                refine hR _ _ _ _ _ dX6_putArgument_41 ?_ (by omega) (by omega)
                rcases h38a with ⟨z1, z2, z3⟩ | ⟨z1, z2, z3⟩
                · first
                  | exact absurd z1 h32
                  | (rw [show agE es n x = fmE es n x from if_neg (b_f z1), z2, z3])
                · first
                  | exact absurd h32 z1
                  | (rw [show agE es n x = 40 :: fmE es n x ++ [41] from if_pos (b_t z1), z2, z3, e3]; rw [show apL pb nv (40 :: fmE es n x ++ [41]) = apL (va_up pb nv 40) (nv + 1) (fmE es n x ++ [41]) from rfl, apL_app]; rfl)
          exact L26 _ pb nv (Nat.lt_succ_self _) (by first | exact Or.inl ⟨h17, rfl, rfl⟩ | exact Or.inr ⟨h17, rfl, rfl⟩)
        · skip
          have hlt : nv < 30 := by
            have hL : agE es n x = 40 :: fmE es n x ++ [41] := if_pos (b_t h17)
            rw [hL] at hbl; simp at hbl; omega
          refine g_aload_n C dX6_putArgument_20 1 rfl rfl ?_
          refine g_bipush C dX6_putArgument_21 (v := (nI 40)) (by decide) ?_
          refine g_callUV C ⟨g_X0_ok, trivial⟩ (t_X6_put l D ty n0 np na nc nf nq no nx ny nl nh nb nw nt th cp tl av wr rs (nI es.length) pb nv 40 (by omega)) rfl gX6_putArgument_X6_put 1 (by decide +kernel) rfl ⟨rfl, rfl⟩ ⟨Nat.le_of_ble_eq_true rfl, Nat.le_of_ble_eq_true rfl⟩ (rest := []) (q0 := 0) rfl rfl hA [0, 4] [1, 2, 3] rfl rfl rfl (wr := [(no, .inl (ty.1, 2000, .inl oM)), (nx, .inl (ty.1, 2000, .inl aM)), (ny, .inl (ty.1, 2000, .inl bM))]) rfl rfl rfl (Nat.le_of_ble_eq_true rfl) dX6_putArgument_23 ⟨Nat.le_of_ble_eq_true rfl, Nat.le_of_ble_eq_true rfl⟩ rfl (g_kuv (fun w hr => ?_))
          subst hr
          refine g_ws (ws' := [(n0, .inr (5, [.int th, .ref np, .ref na, .int cp, .ref nc, .int (nI es.length), .ref nf, .ref nq, .ref no, .ref nx, .ref ny, .ref nl, .ref nh, .ref nb, .ref nw, .int (nI (nv + 1)), .ref nt, .int tl, .int av, .int wr, .long rs])), (no, .inl (ty.1, 2000, .inl oM)), (nx, .inl (ty.1, 2000, .inl aM)), (ny, .inl (ty.1, 2000, .inl bM)), (nw, .inl (ty.1, 400, .inl (zN (va_up pb nv 40))))]) [3, 0, 1, 2, 4] rfl rfl rfl ?_
          have L26 : ∀ (n9 : Nat) (pb2 : Nat → Nat) (n2 : Nat), 0 < n9 → (((isTwo es x).toNat = 0 ∧ n2 = nv ∧ pb2 = pb) ∨ (¬ (isTwo es x).toNat = 0 ∧ n2 = nv + 1 ∧ pb2 = va_up pb nv 40)) → gG (g_IU A D s) p l e ({ frames := 3 * n + 11, cells := 0, slots := 0, locals := 100 * n + 260 } : Room) s m args below meth c Q 3 0 0 26 [(2, .int (nI ((isTwo es x).toNat))), (0, .ref n0), (1, .int (nI x))] [] [(n0, .inr (5, [.int th, .ref np, .ref na, .int cp, .ref nc, .int (nI es.length), .ref nf, .ref nq, .ref no, .ref nx, .ref ny, .ref nl, .ref nh, .ref nb, .ref nw, .int (nI n2), .ref nt, .int tl, .int av, .int wr, .long rs])), (no, .inl (ty.1, 2000, .inl oM)), (nx, .inl (ty.1, 2000, .inl aM)), (ny, .inl (ty.1, 2000, .inl bM)), (nw, .inl (ty.1, 400, .inl (zN pb2)))] := by
            intro n9
            induction n9 with
            | zero => intro pb2 n2 hn; exact absurd hn (Nat.not_lt_zero _)
            | succ n9 ih26 =>
              intro pb2 n2 hn26 h38a
              have hlen : n2 + (fmE es n x).length + (isTwo es x).toNat ≤ 30 := by
                rcases h38a with ⟨z1, z2, z3⟩ | ⟨z1, z2, z3⟩
                · have hL : agE es n x = fmE es n x := if_neg (b_f z1)
                  rw [hL] at hbl; omega
                · have hL : agE es n x = 40 :: fmE es n x ++ [41] := if_pos (b_t z1)
                  have hbt := bt_lt (isTwo es x)
                  rw [hL] at hbl; simp at hbl; omega
              refine g_aload_n C dX6_putArgument_26 1 rfl rfl ?_
              refine g_iload_n C dX6_putArgument_27 2 rfl rfl ?_
              refine g_callUV C hX (hE1 pb2 n2 x (by omega) (by omega) (by omega)) rfl gX6_putArgument_X6_putEntry 1 (by decide +kernel) rfl ⟨rfl, rfl⟩ ⟨by show _ ≤ _; simp only []; omega, by show _ ≤ _; simp only []; omega⟩ (rest := []) (q0 := 0) rfl rfl hA [0, 1, 2, 3, 4] [] rfl rfl rfl (wr := []) rfl rfl rfl (Nat.le_of_ble_eq_true rfl) dX6_putArgument_28 ⟨Nat.le_of_ble_eq_true rfl, Nat.le_of_ble_eq_true rfl⟩ rfl (g_kuv (fun w hr => ?_))
              subst hr
              refine g_ws (ws' := [(n0, .inr (5, [.int th, .ref np, .ref na, .int cp, .ref nc, .int (nI es.length), .ref nf, .ref nq, .ref no, .ref nx, .ref ny, .ref nl, .ref nh, .ref nb, .ref nw, .int (nI (n2 + (fmE es n x).length)), .ref nt, .int tl, .int av, .int wr, .long rs])), (no, .inl (ty.1, 2000, .inl oM)), (nx, .inl (ty.1, 2000, .inl aM)), (ny, .inl (ty.1, 2000, .inl bM)), (nw, .inl (ty.1, 400, .inl (zN (apL pb2 n2 (fmE es n x)))))]) [0, 1, 2, 3, 4] rfl rfl rfl ?_
              refine g_iload_n C dX6_putArgument_31 0 rfl rfl ?_
              have hbt9 := bt_lt (isTwo es x)
              refine g_if_eqN C dX6_putArgument_32 (tgt := 41) (by decide) (by omega) (fun h32 => ?_) (fun h32 => ?_)
              · skip
                have e3 : nv + (40 :: fmE es n x ++ [41]).length = nv + 1 + (fmE es n x).length + 1 := by simp; omega
                refine hR _ _ _ _ _ dX6_putArgument_41 ?_ (by omega) (by omega)
                rcases h38a with ⟨z1, z2, z3⟩ | ⟨z1, z2, z3⟩
                · first
                  | exact absurd z1 h32
                  | (rw [show agE es n x = fmE es n x from if_neg (b_f z1), z2, z3])
                · first
                  | exact absurd h32 z1
                  | (rw [show agE es n x = 40 :: fmE es n x ++ [41] from if_pos (b_t z1), z2, z3, e3]; rw [show apL pb nv (40 :: fmE es n x ++ [41]) = apL (va_up pb nv 40) (nv + 1) (fmE es n x ++ [41]) from rfl, apL_app]; rfl)
              · skip
                refine g_aload_n C dX6_putArgument_35 1 rfl rfl ?_
                refine g_bipush C dX6_putArgument_36 (v := (nI 41)) (by decide) ?_
                refine g_callUV C ⟨g_X0_ok, trivial⟩ (t_X6_put l D ty n0 np na nc nf nq no nx ny nl nh nb nw nt th cp tl av wr rs (nI es.length) (apL pb2 n2 (fmE es n x)) (n2 + (fmE es n x).length) 41 (by omega)) rfl gX6_putArgument_X6_put 1 (by decide +kernel) rfl ⟨rfl, rfl⟩ ⟨Nat.le_of_ble_eq_true rfl, Nat.le_of_ble_eq_true rfl⟩ (rest := []) (q0 := 0) rfl rfl hA [0, 4] [1, 2, 3] rfl rfl rfl (wr := [(no, .inl (ty.1, 2000, .inl oM)), (nx, .inl (ty.1, 2000, .inl aM)), (ny, .inl (ty.1, 2000, .inl bM))]) rfl rfl rfl (Nat.le_of_ble_eq_true rfl) dX6_putArgument_38 ⟨Nat.le_of_ble_eq_true rfl, Nat.le_of_ble_eq_true rfl⟩ rfl (g_kuv (fun w hr => ?_))
                subst hr
                refine g_ws (ws' := [(n0, .inr (5, [.int th, .ref np, .ref na, .int cp, .ref nc, .int (nI es.length), .ref nf, .ref nq, .ref no, .ref nx, .ref ny, .ref nl, .ref nh, .ref nb, .ref nw, .int (nI ((n2 + (fmE es n x).length) + 1)), .ref nt, .int tl, .int av, .int wr, .long rs])), (no, .inl (ty.1, 2000, .inl oM)), (nx, .inl (ty.1, 2000, .inl aM)), (ny, .inl (ty.1, 2000, .inl bM)), (nw, .inl (ty.1, 400, .inl (zN (va_up (apL pb2 n2 (fmE es n x)) (n2 + (fmE es n x).length) 41))))]) [3, 0, 1, 2, 4] rfl rfl rfl ?_
                have e3 : nv + (40 :: fmE es n x ++ [41]).length = nv + 1 + (fmE es n x).length + 1 := by simp; omega
                refine hR _ _ _ _ _ dX6_putArgument_41 ?_ (by omega) (by omega)
                rcases h38a with ⟨z1, z2, z3⟩ | ⟨z1, z2, z3⟩
                · first
                  | exact absurd z1 h32
                  | (rw [show agE es n x = fmE es n x from if_neg (b_f z1), z2, z3])
                · first
                  | exact absurd h32 z1
                  | (rw [show agE es n x = 40 :: fmE es n x ++ [41] from if_pos (b_t z1), z2, z3, e3]; rw [show apL pb nv (40 :: fmE es n x ++ [41]) = apL (va_up pb nv 40) (nv + 1) (fmE es n x ++ [41]) from rfl, apL_app]; rfl)
          exact L26 _ (va_up pb nv 40) (nv + 1) (Nat.lt_succ_self _) (by first | exact Or.inl ⟨h17, rfl, rfl⟩ | exact Or.inr ⟨h17, rfl, rfl⟩)
    exact L15 _  (Nat.lt_succ_self _) 
  · skip
    rw [nI_toInt (by omega)] at h7
    have hT2 : isTwo es x = true := decide_eq_true (by omega)
    refine g_iconst C dX6_putArgument_10 (v := (nI ((isTwo es x).toNat))) (by rw [hT2]; rfl) ?_
    refine g_goto C dX6_putArgument_11 (tgt := 15) (by decide) ?_
    have L15 : ∀ (n9 : Nat) , 0 < n9 → gG (g_IU A D s) p l e ({ frames := 3 * n + 11, cells := 0, slots := 0, locals := 100 * n + 260 } : Room) s m args below meth c Q 3 0 0 15 [(0, .ref n0), (1, .int (nI x))] [.int (nI ((isTwo es x).toNat))] [(n0, .inr (5, [.int th, .ref np, .ref na, .int cp, .ref nc, .int (nI es.length), .ref nf, .ref nq, .ref no, .ref nx, .ref ny, .ref nl, .ref nh, .ref nb, .ref nw, .int (nI nv), .ref nt, .int tl, .int av, .int wr, .long rs])), (no, .inl (ty.1, 2000, .inl oM)), (nx, .inl (ty.1, 2000, .inl aM)), (ny, .inl (ty.1, 2000, .inl bM)), (nw, .inl (ty.1, 400, .inl (zN pb)))] := by
      intro n9
      induction n9 with
      | zero => intro  hn; exact absurd hn (Nat.not_lt_zero _)
      | succ n9 ih15 =>
        intro  hn15 
        refine g_istore_n C dX6_putArgument_15 rfl (by decide) (lv' := [(2, .int (nI ((isTwo es x).toNat))), (0, .ref n0), (1, .int (nI x))]) rfl ?_
        have hbt := bt_lt (isTwo es x)
        refine g_iload_n C dX6_putArgument_16 0 rfl rfl ?_
        refine g_if_eqN C dX6_putArgument_17 (tgt := 26) (by decide) (by omega) (fun h17 => ?_) (fun h17 => ?_)
        · skip
          have L26 : ∀ (n9 : Nat) (pb2 : Nat → Nat) (n2 : Nat), 0 < n9 → (((isTwo es x).toNat = 0 ∧ n2 = nv ∧ pb2 = pb) ∨ (¬ (isTwo es x).toNat = 0 ∧ n2 = nv + 1 ∧ pb2 = va_up pb nv 40)) → gG (g_IU A D s) p l e ({ frames := 3 * n + 11, cells := 0, slots := 0, locals := 100 * n + 260 } : Room) s m args below meth c Q 3 0 0 26 [(2, .int (nI ((isTwo es x).toNat))), (0, .ref n0), (1, .int (nI x))] [] [(n0, .inr (5, [.int th, .ref np, .ref na, .int cp, .ref nc, .int (nI es.length), .ref nf, .ref nq, .ref no, .ref nx, .ref ny, .ref nl, .ref nh, .ref nb, .ref nw, .int (nI n2), .ref nt, .int tl, .int av, .int wr, .long rs])), (no, .inl (ty.1, 2000, .inl oM)), (nx, .inl (ty.1, 2000, .inl aM)), (ny, .inl (ty.1, 2000, .inl bM)), (nw, .inl (ty.1, 400, .inl (zN pb2)))] := by
            intro n9
            induction n9 with
            | zero => intro pb2 n2 hn; exact absurd hn (Nat.not_lt_zero _)
            | succ n9 ih26 =>
              intro pb2 n2 hn26 h38a
              have hlen : n2 + (fmE es n x).length + (isTwo es x).toNat ≤ 30 := by
                rcases h38a with ⟨z1, z2, z3⟩ | ⟨z1, z2, z3⟩
                · have hL : agE es n x = fmE es n x := if_neg (b_f z1)
                  rw [hL] at hbl; omega
                · have hL : agE es n x = 40 :: fmE es n x ++ [41] := if_pos (b_t z1)
                  have hbt := bt_lt (isTwo es x)
                  rw [hL] at hbl; simp at hbl; omega
              refine g_aload_n C dX6_putArgument_26 1 rfl rfl ?_
              refine g_iload_n C dX6_putArgument_27 2 rfl rfl ?_
              refine g_callUV C hX (hE1 pb2 n2 x (by omega) (by omega) (by omega)) rfl gX6_putArgument_X6_putEntry 1 (by decide +kernel) rfl ⟨rfl, rfl⟩ ⟨by show _ ≤ _; simp only []; omega, by show _ ≤ _; simp only []; omega⟩ (rest := []) (q0 := 0) rfl rfl hA [0, 1, 2, 3, 4] [] rfl rfl rfl (wr := []) rfl rfl rfl (Nat.le_of_ble_eq_true rfl) dX6_putArgument_28 ⟨Nat.le_of_ble_eq_true rfl, Nat.le_of_ble_eq_true rfl⟩ rfl (g_kuv (fun w hr => ?_))
              subst hr
              refine g_ws (ws' := [(n0, .inr (5, [.int th, .ref np, .ref na, .int cp, .ref nc, .int (nI es.length), .ref nf, .ref nq, .ref no, .ref nx, .ref ny, .ref nl, .ref nh, .ref nb, .ref nw, .int (nI (n2 + (fmE es n x).length)), .ref nt, .int tl, .int av, .int wr, .long rs])), (no, .inl (ty.1, 2000, .inl oM)), (nx, .inl (ty.1, 2000, .inl aM)), (ny, .inl (ty.1, 2000, .inl bM)), (nw, .inl (ty.1, 400, .inl (zN (apL pb2 n2 (fmE es n x)))))]) [0, 1, 2, 3, 4] rfl rfl rfl ?_
              refine g_iload_n C dX6_putArgument_31 0 rfl rfl ?_
              have hbt9 := bt_lt (isTwo es x)
              refine g_if_eqN C dX6_putArgument_32 (tgt := 41) (by decide) (by omega) (fun h32 => ?_) (fun h32 => ?_)
              · skip
                have e3 : nv + (40 :: fmE es n x ++ [41]).length = nv + 1 + (fmE es n x).length + 1 := by simp; omega
                refine hR _ _ _ _ _ dX6_putArgument_41 ?_ (by omega) (by omega)
                rcases h38a with ⟨z1, z2, z3⟩ | ⟨z1, z2, z3⟩
                · first
                  | exact absurd z1 h32
                  | (rw [show agE es n x = fmE es n x from if_neg (b_f z1), z2, z3])
                · first
                  | exact absurd h32 z1
                  | (rw [show agE es n x = 40 :: fmE es n x ++ [41] from if_pos (b_t z1), z2, z3, e3]; rw [show apL pb nv (40 :: fmE es n x ++ [41]) = apL (va_up pb nv 40) (nv + 1) (fmE es n x ++ [41]) from rfl, apL_app]; rfl)
              · skip
                refine g_aload_n C dX6_putArgument_35 1 rfl rfl ?_
                refine g_bipush C dX6_putArgument_36 (v := (nI 41)) (by decide) ?_
                refine g_callUV C ⟨g_X0_ok, trivial⟩ (t_X6_put l D ty n0 np na nc nf nq no nx ny nl nh nb nw nt th cp tl av wr rs (nI es.length) (apL pb2 n2 (fmE es n x)) (n2 + (fmE es n x).length) 41 (by omega)) rfl gX6_putArgument_X6_put 1 (by decide +kernel) rfl ⟨rfl, rfl⟩ ⟨Nat.le_of_ble_eq_true rfl, Nat.le_of_ble_eq_true rfl⟩ (rest := []) (q0 := 0) rfl rfl hA [0, 4] [1, 2, 3] rfl rfl rfl (wr := [(no, .inl (ty.1, 2000, .inl oM)), (nx, .inl (ty.1, 2000, .inl aM)), (ny, .inl (ty.1, 2000, .inl bM))]) rfl rfl rfl (Nat.le_of_ble_eq_true rfl) dX6_putArgument_38 ⟨Nat.le_of_ble_eq_true rfl, Nat.le_of_ble_eq_true rfl⟩ rfl (g_kuv (fun w hr => ?_))
                subst hr
                refine g_ws (ws' := [(n0, .inr (5, [.int th, .ref np, .ref na, .int cp, .ref nc, .int (nI es.length), .ref nf, .ref nq, .ref no, .ref nx, .ref ny, .ref nl, .ref nh, .ref nb, .ref nw, .int (nI ((n2 + (fmE es n x).length) + 1)), .ref nt, .int tl, .int av, .int wr, .long rs])), (no, .inl (ty.1, 2000, .inl oM)), (nx, .inl (ty.1, 2000, .inl aM)), (ny, .inl (ty.1, 2000, .inl bM)), (nw, .inl (ty.1, 400, .inl (zN (va_up (apL pb2 n2 (fmE es n x)) (n2 + (fmE es n x).length) 41))))]) [3, 0, 1, 2, 4] rfl rfl rfl ?_
                have e3 : nv + (40 :: fmE es n x ++ [41]).length = nv + 1 + (fmE es n x).length + 1 := by simp; omega
                refine hR _ _ _ _ _ dX6_putArgument_41 ?_ (by omega) (by omega)
                rcases h38a with ⟨z1, z2, z3⟩ | ⟨z1, z2, z3⟩
                · first
                  | exact absurd z1 h32
                  | (rw [show agE es n x = fmE es n x from if_neg (b_f z1), z2, z3])
                · first
                  | exact absurd h32 z1
                  | (rw [show agE es n x = 40 :: fmE es n x ++ [41] from if_pos (b_t z1), z2, z3, e3]; rw [show apL pb nv (40 :: fmE es n x ++ [41]) = apL (va_up pb nv 40) (nv + 1) (fmE es n x ++ [41]) from rfl, apL_app]; rfl)
          exact L26 _ pb nv (Nat.lt_succ_self _) (by first | exact Or.inl ⟨h17, rfl, rfl⟩ | exact Or.inr ⟨h17, rfl, rfl⟩)
        · skip
          have hlt : nv < 30 := by
            have hL : agE es n x = 40 :: fmE es n x ++ [41] := if_pos (b_t h17)
            rw [hL] at hbl; simp at hbl; omega
          refine g_aload_n C dX6_putArgument_20 1 rfl rfl ?_
          refine g_bipush C dX6_putArgument_21 (v := (nI 40)) (by decide) ?_
          refine g_callUV C ⟨g_X0_ok, trivial⟩ (t_X6_put l D ty n0 np na nc nf nq no nx ny nl nh nb nw nt th cp tl av wr rs (nI es.length) pb nv 40 (by omega)) rfl gX6_putArgument_X6_put 1 (by decide +kernel) rfl ⟨rfl, rfl⟩ ⟨Nat.le_of_ble_eq_true rfl, Nat.le_of_ble_eq_true rfl⟩ (rest := []) (q0 := 0) rfl rfl hA [0, 4] [1, 2, 3] rfl rfl rfl (wr := [(no, .inl (ty.1, 2000, .inl oM)), (nx, .inl (ty.1, 2000, .inl aM)), (ny, .inl (ty.1, 2000, .inl bM))]) rfl rfl rfl (Nat.le_of_ble_eq_true rfl) dX6_putArgument_23 ⟨Nat.le_of_ble_eq_true rfl, Nat.le_of_ble_eq_true rfl⟩ rfl (g_kuv (fun w hr => ?_))
          subst hr
          refine g_ws (ws' := [(n0, .inr (5, [.int th, .ref np, .ref na, .int cp, .ref nc, .int (nI es.length), .ref nf, .ref nq, .ref no, .ref nx, .ref ny, .ref nl, .ref nh, .ref nb, .ref nw, .int (nI (nv + 1)), .ref nt, .int tl, .int av, .int wr, .long rs])), (no, .inl (ty.1, 2000, .inl oM)), (nx, .inl (ty.1, 2000, .inl aM)), (ny, .inl (ty.1, 2000, .inl bM)), (nw, .inl (ty.1, 400, .inl (zN (va_up pb nv 40))))]) [3, 0, 1, 2, 4] rfl rfl rfl ?_
          have L26 : ∀ (n9 : Nat) (pb2 : Nat → Nat) (n2 : Nat), 0 < n9 → (((isTwo es x).toNat = 0 ∧ n2 = nv ∧ pb2 = pb) ∨ (¬ (isTwo es x).toNat = 0 ∧ n2 = nv + 1 ∧ pb2 = va_up pb nv 40)) → gG (g_IU A D s) p l e ({ frames := 3 * n + 11, cells := 0, slots := 0, locals := 100 * n + 260 } : Room) s m args below meth c Q 3 0 0 26 [(2, .int (nI ((isTwo es x).toNat))), (0, .ref n0), (1, .int (nI x))] [] [(n0, .inr (5, [.int th, .ref np, .ref na, .int cp, .ref nc, .int (nI es.length), .ref nf, .ref nq, .ref no, .ref nx, .ref ny, .ref nl, .ref nh, .ref nb, .ref nw, .int (nI n2), .ref nt, .int tl, .int av, .int wr, .long rs])), (no, .inl (ty.1, 2000, .inl oM)), (nx, .inl (ty.1, 2000, .inl aM)), (ny, .inl (ty.1, 2000, .inl bM)), (nw, .inl (ty.1, 400, .inl (zN pb2)))] := by
            intro n9
            induction n9 with
            | zero => intro pb2 n2 hn; exact absurd hn (Nat.not_lt_zero _)
            | succ n9 ih26 =>
              intro pb2 n2 hn26 h38a
              have hlen : n2 + (fmE es n x).length + (isTwo es x).toNat ≤ 30 := by
                rcases h38a with ⟨z1, z2, z3⟩ | ⟨z1, z2, z3⟩
                · have hL : agE es n x = fmE es n x := if_neg (b_f z1)
                  rw [hL] at hbl; omega
                · have hL : agE es n x = 40 :: fmE es n x ++ [41] := if_pos (b_t z1)
                  have hbt := bt_lt (isTwo es x)
                  rw [hL] at hbl; simp at hbl; omega
              refine g_aload_n C dX6_putArgument_26 1 rfl rfl ?_
              refine g_iload_n C dX6_putArgument_27 2 rfl rfl ?_
              refine g_callUV C hX (hE1 pb2 n2 x (by omega) (by omega) (by omega)) rfl gX6_putArgument_X6_putEntry 1 (by decide +kernel) rfl ⟨rfl, rfl⟩ ⟨by show _ ≤ _; simp only []; omega, by show _ ≤ _; simp only []; omega⟩ (rest := []) (q0 := 0) rfl rfl hA [0, 1, 2, 3, 4] [] rfl rfl rfl (wr := []) rfl rfl rfl (Nat.le_of_ble_eq_true rfl) dX6_putArgument_28 ⟨Nat.le_of_ble_eq_true rfl, Nat.le_of_ble_eq_true rfl⟩ rfl (g_kuv (fun w hr => ?_))
              subst hr
              refine g_ws (ws' := [(n0, .inr (5, [.int th, .ref np, .ref na, .int cp, .ref nc, .int (nI es.length), .ref nf, .ref nq, .ref no, .ref nx, .ref ny, .ref nl, .ref nh, .ref nb, .ref nw, .int (nI (n2 + (fmE es n x).length)), .ref nt, .int tl, .int av, .int wr, .long rs])), (no, .inl (ty.1, 2000, .inl oM)), (nx, .inl (ty.1, 2000, .inl aM)), (ny, .inl (ty.1, 2000, .inl bM)), (nw, .inl (ty.1, 400, .inl (zN (apL pb2 n2 (fmE es n x)))))]) [0, 1, 2, 3, 4] rfl rfl rfl ?_
              refine g_iload_n C dX6_putArgument_31 0 rfl rfl ?_
              have hbt9 := bt_lt (isTwo es x)
              refine g_if_eqN C dX6_putArgument_32 (tgt := 41) (by decide) (by omega) (fun h32 => ?_) (fun h32 => ?_)
              · skip
                have e3 : nv + (40 :: fmE es n x ++ [41]).length = nv + 1 + (fmE es n x).length + 1 := by simp; omega
                refine hR _ _ _ _ _ dX6_putArgument_41 ?_ (by omega) (by omega)
                rcases h38a with ⟨z1, z2, z3⟩ | ⟨z1, z2, z3⟩
                · first
                  | exact absurd z1 h32
                  | (rw [show agE es n x = fmE es n x from if_neg (b_f z1), z2, z3])
                · first
                  | exact absurd h32 z1
                  | (rw [show agE es n x = 40 :: fmE es n x ++ [41] from if_pos (b_t z1), z2, z3, e3]; rw [show apL pb nv (40 :: fmE es n x ++ [41]) = apL (va_up pb nv 40) (nv + 1) (fmE es n x ++ [41]) from rfl, apL_app]; rfl)
              · skip
                refine g_aload_n C dX6_putArgument_35 1 rfl rfl ?_
                refine g_bipush C dX6_putArgument_36 (v := (nI 41)) (by decide) ?_
                refine g_callUV C ⟨g_X0_ok, trivial⟩ (t_X6_put l D ty n0 np na nc nf nq no nx ny nl nh nb nw nt th cp tl av wr rs (nI es.length) (apL pb2 n2 (fmE es n x)) (n2 + (fmE es n x).length) 41 (by omega)) rfl gX6_putArgument_X6_put 1 (by decide +kernel) rfl ⟨rfl, rfl⟩ ⟨Nat.le_of_ble_eq_true rfl, Nat.le_of_ble_eq_true rfl⟩ (rest := []) (q0 := 0) rfl rfl hA [0, 4] [1, 2, 3] rfl rfl rfl (wr := [(no, .inl (ty.1, 2000, .inl oM)), (nx, .inl (ty.1, 2000, .inl aM)), (ny, .inl (ty.1, 2000, .inl bM))]) rfl rfl rfl (Nat.le_of_ble_eq_true rfl) dX6_putArgument_38 ⟨Nat.le_of_ble_eq_true rfl, Nat.le_of_ble_eq_true rfl⟩ rfl (g_kuv (fun w hr => ?_))
                subst hr
                refine g_ws (ws' := [(n0, .inr (5, [.int th, .ref np, .ref na, .int cp, .ref nc, .int (nI es.length), .ref nf, .ref nq, .ref no, .ref nx, .ref ny, .ref nl, .ref nh, .ref nb, .ref nw, .int (nI ((n2 + (fmE es n x).length) + 1)), .ref nt, .int tl, .int av, .int wr, .long rs])), (no, .inl (ty.1, 2000, .inl oM)), (nx, .inl (ty.1, 2000, .inl aM)), (ny, .inl (ty.1, 2000, .inl bM)), (nw, .inl (ty.1, 400, .inl (zN (va_up (apL pb2 n2 (fmE es n x)) (n2 + (fmE es n x).length) 41))))]) [3, 0, 1, 2, 4] rfl rfl rfl ?_
                have e3 : nv + (40 :: fmE es n x ++ [41]).length = nv + 1 + (fmE es n x).length + 1 := by simp; omega
                refine hR _ _ _ _ _ dX6_putArgument_41 ?_ (by omega) (by omega)
                rcases h38a with ⟨z1, z2, z3⟩ | ⟨z1, z2, z3⟩
                · first
                  | exact absurd z1 h32
                  | (rw [show agE es n x = fmE es n x from if_neg (b_f z1), z2, z3])
                · first
                  | exact absurd h32 z1
                  | (rw [show agE es n x = 40 :: fmE es n x ++ [41] from if_pos (b_t z1), z2, z3, e3]; rw [show apL pb nv (40 :: fmE es n x ++ [41]) = apL (va_up pb nv 40) (nv + 1) (fmE es n x ++ [41]) from rfl, apL_app]; rfl)
          exact L26 _ (va_up pb nv 40) (nv + 1) (Nat.lt_succ_self _) (by first | exact Or.inl ⟨h17, rfl, rfl⟩ | exact Or.inr ⟨h17, rfl, rfl⟩)
    exact L15 _  (Nat.lt_succ_self _) 

theorem t_X6_lev (l : Launch) (D : va_G) (ty : g_T3) (n0 np na nc nf nq no nx ny nl nh nb nw nt : Nat) (th cp tl av wr : Int32) (rs : Int64) (es : List Ent) (oM aM bM : Nat → Int32) (hr0 : ∀ i, i < es.length → oM i = eO es i ∧ aM i = eA es i ∧ bM i = eB es i) (hwf : wfE es) (hl0 : es.length ≤ 2000) : ∀ n : Nat, ∀ (pb : Nat → Nat) (nv x : Nat), x < es.length → eC es x < n → nv + (fmE es n x).length ≤ 30 → g_U l yX6_putEntry wsX6_putEntry ({ frames := 3 * n + 10, cells := 0, slots := 0, locals := 100 * n + 200 } : Room) D ty g_XN [.ref n0, .int (nI x)] [(n0, .inr (5, [.int th, .ref np, .ref na, .int cp, .ref nc, .int (nI es.length), .ref nf, .ref nq, .ref no, .ref nx, .ref ny, .ref nl, .ref nh, .ref nb, .ref nw, .int (nI nv), .ref nt, .int tl, .int av, .int wr, .long rs])), (no, .inl (ty.1, 2000, .inl oM)), (nx, .inl (ty.1, 2000, .inl aM)), (ny, .inl (ty.1, 2000, .inl bM)), (nw, .inl (ty.1, 400, .inl (zN pb)))] 0 0 (g_uv (fun w => w = [(n0, .inr (5, [.int th, .ref np, .ref na, .int cp, .ref nc, .int (nI es.length), .ref nf, .ref nq, .ref no, .ref nx, .ref ny, .ref nl, .ref nh, .ref nb, .ref nw, .int (nI (nv + (fmE es n x).length)), .ref nt, .int tl, .int av, .int wr, .long rs])), (no, .inl (ty.1, 2000, .inl oM)), (nx, .inl (ty.1, 2000, .inl aM)), (ny, .inl (ty.1, 2000, .inl bM)), (nw, .inl (ty.1, 400, .inl (zN (apL pb nv (fmE es n x)))))])) := by
  intro n
  induction n with
  | zero => intro pb nv x _ h; exact absurd h (Nat.not_lt_zero _)
  | succ n ih =>
    intro pb nv x h1 h2 h3
    exact t_X6_putEntry l D ty n0 np na nc nf nq no nx ny nl nh nb nw nt th cp tl av wr rs es oM aM bM hr0 hwf hl0 n (fun pb nv x h1 h2 h3 => t_X6_putArgument l D ty n0 np na nc nf nq no nx ny nl nh nb nw nt th cp tl av wr rs es oM aM bM hr0 hwf hl0 n ih pb nv x h1 h2 h3) pb nv x h1 h2 h3


abbrev rm_t_X6_next : Room := ({ frames := 0, cells := 0, slots := 0, locals := 0 } : Room)
set_option maxHeartbeats 4000000 in
set_option maxRecDepth 100000 in
theorem t_X6_next (l : Launch) (D : va_G) (ty : g_T3) (n0 np na nc nf nq no nx ny nl nh nb nw nt : Nat) (th cp pl en : Int32) (rs : Int64) (tl : Nat) (tb : Nat → Nat) (hb : ∀ i, tb i < 256) (htl : tl ≤ 300) (pq : Nat) (hp : pq ≤ tl) (wr : Int32) : g_U l yX6_next wsX6_next rm_t_X6_next D ty g_X0 [.ref n0] [(n0, .inr (5, [.int th, .ref np, .ref na, .int cp, .ref nc, .int en, .ref nf, .ref nq, .ref no, .ref nx, .ref ny, .ref nl, .ref nh, .ref nb, .ref nw, .int pl, .ref nt, .int (nI tl), .int (nI pq), .int wr, .long rs])), (nt, .inl (ty.1, 300, .inl (zN tb)))] 0 0 (g_ui (fun r w => r = hre tb tl (nxt tb tl pq) ∧ w = [(n0, .inr (5, [.int th, .ref np, .ref na, .int cp, .ref nc, .int en, .ref nf, .ref nq, .ref no, .ref nx, .ref ny, .ref nl, .ref nh, .ref nb, .ref nw, .int pl, .ref nt, .int (nI tl), .int (nI (nxt tb tl pq)), .int wr, .long rs])), (nt, .inl (ty.1, 300, .inl (zN tb)))])) := by
  refine g_ofUi (cc := cX6_next) (nL := 1) (own := RX6) (by decide) rfl rfl g_X0_ok (Nat.le_of_ble_eq_true rfl) ?_
  intro p e s m args below meth c Q A C hA hX hin hR
  refine g_lv (lv' := [(0, .ref n0)]) [0] rfl ?_
  have L0 : ∀ (n9 : Nat) (q : Nat), tl - q < n9 → (q ≤ tl) → (nxt tb tl q = nxt tb tl pq) → gG (g_IU A D s) p l e rm_t_X6_next s m args below meth c Q 1 0 0 0 [(0, .ref n0)] [] [(n0, .inr (5, [.int th, .ref np, .ref na, .int cp, .ref nc, .int en, .ref nf, .ref nq, .ref no, .ref nx, .ref ny, .ref nl, .ref nh, .ref nb, .ref nw, .int pl, .ref nt, .int (nI tl), .int (nI q), .int wr, .long rs])), (nt, .inl (ty.1, 300, .inl (zN tb)))] := by
    intro n9
    induction n9 with
    | zero => intro q hn; exact absurd hn (Nat.not_lt_zero _)
    | succ n9 ih0 =>
      intro q hn0 hq hn
      refine g_aload_n C dX6_next_0 0 rfl rfl ?_
      refine g_get C 0 rfl rfl 18 (by decide) (fun _ h => (List.mem_cons_of_mem _ (List.mem_append_right _ h))) 1 rfl rfl rfl dX6_next_1 ?_
      refine g_aload_n C dX6_next_4 0 rfl rfl ?_
      refine g_get C 0 rfl rfl 17 (by decide) (fun _ h => (List.mem_cons_of_mem _ (List.mem_append_right _ h))) 2 rfl rfl rfl dX6_next_5 ?_
      refine g_icmp_geN C dX6_next_8 (tgt := 38) (by decide) (by omega) (by omega) (fun h8 => ?_) (fun h8 => ?_)
      · skip
        have L38 : ∀ (n9 : Nat) (q2 : Nat), 0 < n9 → (q2 = nxt tb tl pq) → (q2 ≤ tl) → gG (g_IU A D s) p l e rm_t_X6_next s m args below meth c Q 1 0 0 38 [(0, .ref n0)] [] [(n0, .inr (5, [.int th, .ref np, .ref na, .int cp, .ref nc, .int en, .ref nf, .ref nq, .ref no, .ref nx, .ref ny, .ref nl, .ref nh, .ref nb, .ref nw, .int pl, .ref nt, .int (nI tl), .int (nI q2), .int wr, .long rs])), (nt, .inl (ty.1, 300, .inl (zN tb)))] := by
          intro n9
          induction n9 with
          | zero => intro q2 hn; exact absurd hn (Nat.not_lt_zero _)
          | succ n9 ih38 =>
            intro q2 hn38 hE hq2
            refine g_aload_n C dX6_next_38 0 rfl rfl ?_
            refine g_get C 0 rfl rfl 18 (by decide) (fun _ h => (List.mem_cons_of_mem _ (List.mem_append_right _ h))) 1 rfl rfl rfl dX6_next_39 ?_
            refine g_aload_n C dX6_next_42 0 rfl rfl ?_
            refine g_get C 0 rfl rfl 17 (by decide) (fun _ h => (List.mem_cons_of_mem _ (List.mem_append_right _ h))) 2 rfl rfl rfl dX6_next_43 ?_
            refine g_icmp_geN C dX6_next_46 (tgt := 61) (by decide) (by omega) (by omega) (fun h46 => ?_) (fun h46 => ?_)
            · skip
              refine g_iconst C dX6_next_61 (v := (-1)) (by decide) ?_
              refine hR _ _ _ _ _ _ dX6_next_62 ?_ (by omega) (by omega)
              subst hE
              first | exact ⟨(hre_t h46).symm, rfl⟩ | exact ⟨(hre_f (by omega)).symm, rfl⟩
            · skip
              refine g_aload_n C dX6_next_49 0 rfl rfl ?_
              refine g_get C 0 rfl rfl 16 (by decide) (fun _ h => (List.mem_cons_of_mem _ (List.mem_append_right _ h))) 3 rfl rfl rfl dX6_next_50 ?_
              refine g_aload_n C dX6_next_53 0 rfl rfl ?_
              refine g_get C 0 rfl rfl 18 (by decide) (fun _ h => (List.mem_cons_of_mem _ (List.mem_append_right _ h))) 1 rfl rfl rfl dX6_next_54 ?_
              refine g_iald C (v := (nI (tb q2))) 1 rfl (by omega) (by omega) rfl dX6_next_57 ?_
              refine g_goto C dX6_next_58 (tgt := 62) (by decide) ?_
              refine hR _ _ _ _ _ _ dX6_next_62 ?_ (by omega) (by omega)
              subst hE
              first | exact ⟨(hre_t h46).symm, rfl⟩ | exact ⟨(hre_f (by omega)).symm, rfl⟩
        exact L38 _ q (Nat.lt_succ_self _) (by rw [← hn]; first | exact (nxt_e h8).symm | exact (nxt_0 h8 h22).symm) hq
      · skip
        refine g_aload_n C dX6_next_11 0 rfl rfl ?_
        refine g_get C 0 rfl rfl 16 (by decide) (fun _ h => (List.mem_cons_of_mem _ (List.mem_append_right _ h))) 3 rfl rfl rfl dX6_next_12 ?_
        refine g_aload_n C dX6_next_15 0 rfl rfl ?_
        refine g_get C 0 rfl rfl 18 (by decide) (fun _ h => (List.mem_cons_of_mem _ (List.mem_append_right _ h))) 1 rfl rfl rfl dX6_next_16 ?_
        refine g_iald C (v := (nI (tb q))) 1 rfl (by omega) (by omega) rfl dX6_next_19 ?_
        refine g_bipush C dX6_next_20 (v := (nI 32)) (by decide) ?_
        refine g_icmp_neN C dX6_next_22 (tgt := 38) (by decide) (by have := hb q; omega) (by omega) (fun h22 => ?_) (fun h22 => ?_)
        · skip
          have L38 : ∀ (n9 : Nat) (q2 : Nat), 0 < n9 → (q2 = nxt tb tl pq) → (q2 ≤ tl) → gG (g_IU A D s) p l e rm_t_X6_next s m args below meth c Q 1 0 0 38 [(0, .ref n0)] [] [(n0, .inr (5, [.int th, .ref np, .ref na, .int cp, .ref nc, .int en, .ref nf, .ref nq, .ref no, .ref nx, .ref ny, .ref nl, .ref nh, .ref nb, .ref nw, .int pl, .ref nt, .int (nI tl), .int (nI q2), .int wr, .long rs])), (nt, .inl (ty.1, 300, .inl (zN tb)))] := by
            intro n9
            induction n9 with
            | zero => intro q2 hn; exact absurd hn (Nat.not_lt_zero _)
            | succ n9 ih38 =>
              intro q2 hn38 hE hq2
              refine g_aload_n C dX6_next_38 0 rfl rfl ?_
              refine g_get C 0 rfl rfl 18 (by decide) (fun _ h => (List.mem_cons_of_mem _ (List.mem_append_right _ h))) 1 rfl rfl rfl dX6_next_39 ?_
              refine g_aload_n C dX6_next_42 0 rfl rfl ?_
              refine g_get C 0 rfl rfl 17 (by decide) (fun _ h => (List.mem_cons_of_mem _ (List.mem_append_right _ h))) 2 rfl rfl rfl dX6_next_43 ?_
              refine g_icmp_geN C dX6_next_46 (tgt := 61) (by decide) (by omega) (by omega) (fun h46 => ?_) (fun h46 => ?_)
              · skip
                refine g_iconst C dX6_next_61 (v := (-1)) (by decide) ?_
                refine hR _ _ _ _ _ _ dX6_next_62 ?_ (by omega) (by omega)
                subst hE
                first | exact ⟨(hre_t h46).symm, rfl⟩ | exact ⟨(hre_f (by omega)).symm, rfl⟩
              · skip
                refine g_aload_n C dX6_next_49 0 rfl rfl ?_
                refine g_get C 0 rfl rfl 16 (by decide) (fun _ h => (List.mem_cons_of_mem _ (List.mem_append_right _ h))) 3 rfl rfl rfl dX6_next_50 ?_
                refine g_aload_n C dX6_next_53 0 rfl rfl ?_
                refine g_get C 0 rfl rfl 18 (by decide) (fun _ h => (List.mem_cons_of_mem _ (List.mem_append_right _ h))) 1 rfl rfl rfl dX6_next_54 ?_
                refine g_iald C (v := (nI (tb q2))) 1 rfl (by omega) (by omega) rfl dX6_next_57 ?_
                refine g_goto C dX6_next_58 (tgt := 62) (by decide) ?_
                refine hR _ _ _ _ _ _ dX6_next_62 ?_ (by omega) (by omega)
                subst hE
                first | exact ⟨(hre_t h46).symm, rfl⟩ | exact ⟨(hre_f (by omega)).symm, rfl⟩
          exact L38 _ q (Nat.lt_succ_self _) (by rw [← hn]; first | exact (nxt_e h8).symm | exact (nxt_0 h8 h22).symm) hq
        · skip
          refine g_aload_n C dX6_next_25 0 rfl rfl ?_
          refine g_dup C dX6_next_26 rfl ?_
          refine g_get C 0 rfl rfl 18 (by decide) (fun _ h => (List.mem_cons_of_mem _ (List.mem_append_right _ h))) 1 rfl rfl rfl dX6_next_27 ?_
          refine g_iconst C dX6_next_30 (v := (nI 1)) (by decide) ?_
          refine g_iadd C dX6_next_31 (v := (nI (q + 1))) (nI_add _ _) ?_
          refine g_put C 0 rfl rfl 18 (by decide) (fun _ h => (List.mem_cons_of_mem _ (List.mem_append_right _ h))) 1 rfl rfl tyX6 tyX6_ok nmX6 rfl rfl rfl rfl (Nat.le_of_ble_eq_true rfl) (ws' := [(n0, .inr (5, [.int th, .ref np, .ref na, .int cp, .ref nc, .int en, .ref nf, .ref nq, .ref no, .ref nx, .ref ny, .ref nl, .ref nh, .ref nb, .ref nw, .int pl, .ref nt, .int (nI tl), .int (nI (q + 1)), .int wr, .long rs])), (nt, .inl (ty.1, 300, .inl (zN tb)))]) rfl dX6_next_32 ?_
          refine g_goto C dX6_next_35 (tgt := 0) (by decide) ?_
          exact ih0 (q + 1) (by omega) (by omega) (by rw [← hn]; exact (nxt_1 h8 h22).symm)
  exact L0 _ pq (Nat.lt_succ_self _) hp rfl

abbrev rm_t_X6_wrong : Room := ({ frames := 0, cells := 0, slots := 0, locals := 0 } : Room)
set_option maxHeartbeats 4000000 in
set_option maxRecDepth 100000 in
theorem t_X6_wrong (l : Launch) (D : va_G) (ty : g_T3) (n0 np na nc nf nq no nx ny nl nh nb nw nt : Nat) (th cp pl en : Int32) (rs : Int64) (tl : Nat) (tb : Nat → Nat) (hb : ∀ i, tb i < 256) (htl : tl ≤ 300) (av wr : Int32) : g_U l yX6_wrong wsX6_wrong rm_t_X6_wrong D ty g_X0 [.ref n0] [(n0, .inr (5, [.int th, .ref np, .ref na, .int cp, .ref nc, .int en, .ref nf, .ref nq, .ref no, .ref nx, .ref ny, .ref nl, .ref nh, .ref nb, .ref nw, .int pl, .ref nt, .int (nI tl), .int av, .int wr, .long rs])), (nt, .inl (ty.1, 300, .inl (zN tb)))] 0 0 (g_ul (fun r w => r = 0 ∧ w = [(n0, .inr (5, [.int th, .ref np, .ref na, .int cp, .ref nc, .int en, .ref nf, .ref nq, .ref no, .ref nx, .ref ny, .ref nl, .ref nh, .ref nb, .ref nw, .int pl, .ref nt, .int (nI tl), .int av, .int (nI 1), .long rs])), (nt, .inl (ty.1, 300, .inl (zN tb)))])) := by
  refine g_ofUl (cc := cX6_wrong) (nL := 1) (own := RX6) (by decide) rfl rfl g_X0_ok (Nat.le_of_ble_eq_true rfl) ?_
  intro p e s m args below meth c Q A C hA hX hin hR
  refine g_lv (lv' := [(0, .ref n0)]) [0] rfl ?_
  refine g_aload_n C dX6_wrong_0 0 rfl rfl ?_
  refine g_iconst C dX6_wrong_1 (v := (nI 1)) (by decide) ?_
  refine g_put C 0 rfl rfl 19 (by decide) (fun _ h => (List.mem_cons_of_mem _ (List.mem_append_right _ h))) 1 rfl rfl tyX6 tyX6_ok nmX6 rfl rfl rfl rfl (Nat.le_of_ble_eq_true rfl) (ws' := [(n0, .inr (5, [.int th, .ref np, .ref na, .int cp, .ref nc, .int en, .ref nf, .ref nq, .ref no, .ref nx, .ref ny, .ref nl, .ref nh, .ref nb, .ref nw, .int pl, .ref nt, .int (nI tl), .int av, .int (nI 1), .long rs])), (nt, .inl (ty.1, 300, .inl (zN tb)))]) rfl dX6_wrong_2 ?_
  refine g_lconst C dX6_wrong_5 (v := 0) (by decide) ?_
  refine hR _ _ _ _ _ _ dX6_wrong_6 ?_ (by omega) (by omega)
  exact ⟨rfl, rfl⟩

abbrev rm_t_X6_opOf : Room := ({ frames := 0, cells := 0, slots := 0, locals := 0 } : Room)
set_option maxHeartbeats 4000000 in
set_option maxRecDepth 100000 in
theorem t_X6_opOf (l : Launch) (D : va_G) (ty : g_T3) (b : Int32) (lo hi : Nat) (hh : hi ≤ 10) (hl9 : lo ≤ hi) : g_P l yX6_opOf wsX6_opOf rm_t_X6_opOf D ty g_XN [.int b, .int (nI lo), .int (nI hi)] [] (g_pi (fun r => r = opL b (hi - lo) lo)) := by
  refine g_ofPi (cc := cX6_opOf) (nL := 5) (own := RX6) (by decide) rfl rfl g_XN_ok (Nat.le_of_ble_eq_true rfl) ?_
  intro p e s m args below meth c Q C hX hR
  refine g_lv (lv' := [(0, .int b), (1, .int (nI lo)), (2, .int (nI hi))]) [0, 1, 2] rfl ?_
  obtain ⟨tS, hZ, hT⟩ := hX.2.2.2.2
  refine g_iconst C dX6_opOf_0 (v := (-1)) (by decide) ?_
  refine g_istore_n C dX6_opOf_1 rfl (by decide) (lv' := [(3, .int (-1)), (0, .int b), (1, .int (nI lo)), (2, .int (nI hi))]) rfl ?_
  refine g_iload_n C dX6_opOf_2 2 rfl rfl ?_
  refine g_istore C dX6_opOf_3 (by decide) (lv' := [(4, .int (nI lo)), (3, .int (-1)), (0, .int b), (1, .int (nI lo)), (2, .int (nI hi))]) rfl ?_
  have L5 : ∀ (n9 : Nat) (n : Nat) (v : Int32), hi - (lo + n) < n9 → (lo + n ≤ hi) → (v = opL b n lo) → gG (g_IP D s []) p l e rm_t_X6_opOf s m args below meth c Q 5 0 0 5 [(4, .int (nI (lo + n))), (3, .int v), (0, .int b), (1, .int (nI lo)), (2, .int (nI hi))] [] [] := by
    intro n9
    induction n9 with
    | zero => intro n v hn; exact absurd hn (Nat.not_lt_zero _)
    | succ n9 ih5 =>
      intro n v hn5 ho hv
      refine g_iload C dX6_opOf_5 0 rfl ?_
      refine g_iload_n C dX6_opOf_7 4 rfl rfl ?_
      refine g_icmp_geN C dX6_opOf_8 (tgt := 30) (by decide) (by omega) (by omega) (fun h8 => ?_) (fun h8 => ?_)
      · skip
        have hnn : n = hi - lo := by omega
        refine g_iload_n C dX6_opOf_30 1 rfl rfl ?_
        exact hR _ _ _ _ dX6_opOf_31 (by rw [hv, hnn])
      · skip
        refine g_gets C hZ 1 rfl rfl dX6_opOf_11 ?_
        refine g_iload C dX6_opOf_14 0 rfl ?_
        refine g_ti C hT (by omega) (by decide) rfl dX6_opOf_16 ?_
        refine g_iload_n C dX6_opOf_17 2 rfl rfl ?_
        refine g_icmp_ne C dX6_opOf_18 (tgt := 24) (by decide) (fun h18 => ?_) (fun h18 => ?_)
        · skip
          refine g_iinc C dX6_opOf_24 0 rfl (v := (nI (lo + (n + 1)))) (nI_1 (lo + n)) (by decide) (lv' := [(4, .int (nI (lo + (n + 1)))), (3, .int v), (0, .int b), (1, .int (nI lo)), (2, .int (nI hi))]) rfl ?_
          refine g_goto C dX6_opOf_27 (tgt := 5) (by decide) ?_
          exact ih5 (n + 1) _ (by omega) (by omega) (by first | exact (opL_1 (t_eq.mpr h18).symm).symm | (rw [opL_0 (fun z => h18 (t_eq.mp z.symm))]; exact hv))
        · skip
          refine g_iload C dX6_opOf_21 0 rfl ?_
          refine g_istore_n C dX6_opOf_23 rfl (by decide) (lv' := [(3, .int (nI (lo + n))), (4, .int (nI (lo + n))), (0, .int b), (1, .int (nI lo)), (2, .int (nI hi))]) rfl ?_
          refine g_iinc C dX6_opOf_24 1 rfl (v := (nI (lo + (n + 1)))) (nI_1 (lo + n)) (by decide) (lv' := [(4, .int (nI (lo + (n + 1)))), (3, .int (nI (lo + n))), (0, .int b), (1, .int (nI lo)), (2, .int (nI hi))]) rfl ?_
          refine g_goto C dX6_opOf_27 (tgt := 5) (by decide) ?_
          exact ih5 (n + 1) _ (by omega) (by omega) (by first | exact (opL_1 (t_eq.mpr h18).symm).symm | (rw [opL_0 (fun z => h18 (t_eq.mp z.symm))]; exact hv))
  exact L5 _ 0 _ (Nat.lt_succ_self _) (by omega) rfl

abbrev rm_t_X6_number : Room := ({ frames := 2, cells := 0, slots := 0, locals := 42 } : Room)
set_option maxHeartbeats 4000000 in
set_option maxRecDepth 100000 in
theorem t_X6_number (l : Launch) (D : va_G) (ty : g_T3) (n0 np na nc nf nq no nx ny nl nh nb nw nt : Nat) (th cp pl en : Int32) (rs : Int64) (tl : Nat) (tb : Nat → Nat) (hb : ∀ i, tb i < 256) (htl : tl ≤ 300) (pq : Nat) (hp : pq < tl) (hd1 : 48 ≤ tb pq) (hd2 : tb pq ≤ 57) : g_U l yX6_number wsX6_number rm_t_X6_number D ty g_X0 [.ref n0] [(n0, .inr (5, [.int th, .ref np, .ref na, .int cp, .ref nc, .int en, .ref nf, .ref nq, .ref no, .ref nx, .ref ny, .ref nl, .ref nh, .ref nb, .ref nw, .int pl, .ref nt, .int (nI tl), .int (nI pq), .int (nI 0), .long rs])), (nt, .inl (ty.1, 300, .inl (zN tb)))] 0 0 (g_ul (fun r w => ∃ at2 wr2, w = [(n0, .inr (5, [.int th, .ref np, .ref na, .int cp, .ref nc, .int en, .ref nf, .ref nq, .ref no, .ref nx, .ref ny, .ref nl, .ref nh, .ref nb, .ref nw, .int pl, .ref nt, .int (nI tl), .int at2, .int wr2, .long rs])), (nt, .inl (ty.1, 300, .inl (zN tb)))] ∧ psM (nuR tb tl pq) tl r at2 wr2)) := by
  refine g_ofUl (cc := cX6_number) (nL := 3) (own := RX6) (by decide) rfl rfl g_X0_ok (Nat.le_of_ble_eq_true rfl) ?_
  intro p e s m args below meth c Q A C hA hX hin hR
  refine g_lv (lv' := [(0, .ref n0)]) [0] rfl ?_
  have hbq := hb (pq + 1)
  refine g_aload_n C dX6_number_0 0 rfl rfl ?_
  refine g_get C 0 rfl rfl 16 (by decide) (fun _ h => (List.mem_cons_of_mem _ (List.mem_append_right _ h))) 1 rfl rfl rfl dX6_number_1 ?_
  refine g_aload_n C dX6_number_4 0 rfl rfl ?_
  refine g_get C 0 rfl rfl 18 (by decide) (fun _ h => (List.mem_cons_of_mem _ (List.mem_append_right _ h))) 2 rfl rfl rfl dX6_number_5 ?_
  refine g_iald C (v := (nI (tb pq))) 1 rfl (by omega) (by omega) rfl dX6_number_8 ?_
  refine g_bipush C dX6_number_9 (v := (nI 48)) (by decide) ?_
  refine g_isub C dX6_number_11 (v := (nI ((tb pq) - 48))) (pk_sub (by omega)) ?_
  refine g_istore_n C dX6_number_12 rfl (by decide) (lv' := [(1, .int (nI ((tb pq) - 48))), (0, .ref n0)]) rfl ?_
  refine g_iconst C dX6_number_13 (v := (nI 1)) (by decide) ?_
  refine g_istore_n C dX6_number_14 rfl (by decide) (lv' := [(2, .int (nI 1)), (1, .int (nI ((tb pq) - 48))), (0, .ref n0)]) rfl ?_
  refine g_aload_n C dX6_number_15 2 rfl rfl ?_
  refine g_get C 0 rfl rfl 18 (by decide) (fun _ h => (List.mem_cons_of_mem _ (List.mem_append_right _ h))) 2 rfl rfl rfl dX6_number_16 ?_
  refine g_iconst C dX6_number_19 (v := (nI 1)) (by decide) ?_
  refine g_iadd C dX6_number_20 (v := (nI (pq + 1))) (nI_add _ _) ?_
  refine g_aload_n C dX6_number_21 2 rfl rfl ?_
  refine g_get C 0 rfl rfl 17 (by decide) (fun _ h => (List.mem_cons_of_mem _ (List.mem_append_right _ h))) 3 rfl rfl rfl dX6_number_22 ?_
  refine g_icmp_geN C dX6_number_25 (tgt := 67) (by decide) (by omega) (by omega) (fun h25 => ?_) (fun h25 => ?_)
  · skip
    have L67 : ∀ (n9 : Nat) (v sz : Nat), 0 < n9 → (nuV tb tl pq = (v, pq + sz)) → (pq + sz ≤ tl) → (v < 1000) → gG (g_IU A D s) p l e rm_t_X6_number s m args below meth c Q 3 0 0 67 [(2, .int (nI sz)), (1, .int (nI v)), (0, .ref n0)] [] [(n0, .inr (5, [.int th, .ref np, .ref na, .int cp, .ref nc, .int en, .ref nf, .ref nq, .ref no, .ref nx, .ref ny, .ref nl, .ref nh, .ref nb, .ref nw, .int pl, .ref nt, .int (nI tl), .int (nI pq), .int (nI 0), .long rs])), (nt, .inl (ty.1, 300, .inl (zN tb)))] := by
      intro n9
      induction n9 with
      | zero => intro v sz hn; exact absurd hn (Nat.not_lt_zero _)
      | succ n9 ih67 =>
        intro v sz hn67 hV hq hvv
        refine g_iload_n C dX6_number_67 1 rfl rfl ?_
        refine g_bipush C dX6_number_68 (v := (nI 15)) (by decide) ?_
        refine g_icmp_leN C dX6_number_70 (tgt := 78) (by decide) (by omega) (by omega) (fun h70 => ?_) (fun h70 => ?_)
        · skip
          refine g_aload_n C dX6_number_78 2 rfl rfl ?_
          refine g_dup C dX6_number_79 rfl ?_
          refine g_get C 0 rfl rfl 18 (by decide) (fun _ h => (List.mem_cons_of_mem _ (List.mem_append_right _ h))) 2 rfl rfl rfl dX6_number_80 ?_
          refine g_iload_n C dX6_number_83 0 rfl rfl ?_
          refine g_iadd C dX6_number_84 (v := (nI (pq + sz))) (nI_add _ _) ?_
          refine g_put C 0 rfl rfl 18 (by decide) (fun _ h => (List.mem_cons_of_mem _ (List.mem_append_right _ h))) 2 rfl rfl tyX6 tyX6_ok nmX6 rfl rfl rfl rfl (Nat.le_of_ble_eq_true rfl) (ws' := [(n0, .inr (5, [.int th, .ref np, .ref na, .int cp, .ref nc, .int en, .ref nf, .ref nq, .ref no, .ref nx, .ref ny, .ref nl, .ref nh, .ref nb, .ref nw, .int pl, .ref nt, .int (nI tl), .int (nI (pq + sz)), .int (nI 0), .long rs])), (nt, .inl (ty.1, 300, .inl (zN tb)))]) rfl dX6_number_85 ?_
          refine g_iload_n C dX6_number_88 1 rfl rfl ?_
          refine g_callPS C ⟨g_X0_ok, trivial⟩ (t_X6_constant l D ty v (by omega)) rfl gX6_number_X6_constant 1 (by decide +kernel) rfl ⟨rfl, rfl⟩ ⟨Nat.le_of_ble_eq_true rfl, Nat.le_of_ble_eq_true rfl⟩ (rest := []) [] rfl (Nat.le_of_ble_eq_true rfl) dX6_number_89 ⟨Nat.le_of_ble_eq_true rfl, Nat.le_of_ble_eq_true rfl⟩ rfl (g_kl (fun r hr => ?_))
          subst hr
          refine hR _ _ _ _ _ _ dX6_number_92 ?_ (by omega) (by omega)
          exact ⟨_, _, rfl, Or.inl ⟨_, _, nu_ok hV (by omega), hq, rfl, rfl, rfl⟩⟩
        · skip
          refine g_aload_n C dX6_number_73 2 rfl rfl ?_
          refine g_callUV C ⟨g_X0_ok, trivial⟩ (t_X6_wrong l D ty n0 np na nc nf nq no nx ny nl nh nb nw nt th cp pl en rs tl tb hb htl (nI pq) (nI 0)) rfl gX6_number_X6_wrong 0 (by decide +kernel) rfl ⟨rfl, rfl⟩ ⟨Nat.le_of_ble_eq_true rfl, Nat.le_of_ble_eq_true rfl⟩ (rest := []) (q0 := 0) rfl rfl hA [0, 1] [] rfl rfl rfl (wr := []) rfl rfl rfl (Nat.le_of_ble_eq_true rfl) dX6_number_74 ⟨Nat.le_of_ble_eq_true rfl, Nat.le_of_ble_eq_true rfl⟩ rfl (g_kul (fun r w hr => ?_))
          obtain ⟨rfl, rfl⟩ := hr
          refine g_ws (ws' := [(n0, .inr (5, [.int th, .ref np, .ref na, .int cp, .ref nc, .int en, .ref nf, .ref nq, .ref no, .ref nx, .ref ny, .ref nl, .ref nh, .ref nb, .ref nw, .int pl, .ref nt, .int (nI tl), .int (nI pq), .int (nI 1), .long rs])), (nt, .inl (ty.1, 300, .inl (zN tb)))]) [0, 1] rfl rfl rfl ?_
          refine hR _ _ _ _ _ _ dX6_number_77 ?_ (by omega) (by omega)
          exact ⟨_, _, rfl, Or.inr ⟨_, nu_no hV (by omega), by omega, rfl, rfl⟩⟩
    exact L67 _ ((tb pq) - 48) 1 (Nat.lt_succ_self _) (by first | exact if_pos (by rw [hre_f (by omega)]; exact dg_m1) | exact if_pos (by rw [hre_t h25]; exact h42) | exact (if_neg (by rw [hre_t h25]; exact h42)).trans (congrArg (fun z => (z, pq + 2)) (by omega))) (by omega) (by omega)
  · skip
    refine g_aload_n C dX6_number_28 2 rfl rfl ?_
    refine g_get C 0 rfl rfl 16 (by decide) (fun _ h => (List.mem_cons_of_mem _ (List.mem_append_right _ h))) 1 rfl rfl rfl dX6_number_29 ?_
    refine g_aload_n C dX6_number_32 2 rfl rfl ?_
    refine g_get C 0 rfl rfl 18 (by decide) (fun _ h => (List.mem_cons_of_mem _ (List.mem_append_right _ h))) 2 rfl rfl rfl dX6_number_33 ?_
    refine g_iconst C dX6_number_36 (v := (nI 1)) (by decide) ?_
    refine g_iadd C dX6_number_37 (v := (nI (pq + 1))) (nI_add _ _) ?_
    refine g_iald C (v := (nI (tb (pq + 1)))) 1 rfl (by omega) (by omega) rfl dX6_number_38 ?_
    refine g_callPS C ⟨g_X0_ok, trivial⟩ (t_X6_isDigit l D ty (nI (tb (pq + 1)))) rfl gX6_number_X6_isDigit 1 (by decide +kernel) rfl ⟨rfl, rfl⟩ ⟨Nat.le_of_ble_eq_true rfl, Nat.le_of_ble_eq_true rfl⟩ (rest := []) [] rfl (Nat.le_of_ble_eq_true rfl) dX6_number_39 ⟨Nat.le_of_ble_eq_true rfl, Nat.le_of_ble_eq_true rfl⟩ rfl (g_ki (fun r hr => ?_))
    subst hr
    have := bt_lt (inB (nI (tb (pq + 1))) (nI 48) (nI 57))
    refine g_if_eqN C dX6_number_42 (tgt := 67) (by decide) (by omega) (fun h42 => ?_) (fun h42 => ?_)
    · skip
      have L67 : ∀ (n9 : Nat) (v sz : Nat), 0 < n9 → (nuV tb tl pq = (v, pq + sz)) → (pq + sz ≤ tl) → (v < 1000) → gG (g_IU A D s) p l e rm_t_X6_number s m args below meth c Q 3 0 0 67 [(2, .int (nI sz)), (1, .int (nI v)), (0, .ref n0)] [] [(n0, .inr (5, [.int th, .ref np, .ref na, .int cp, .ref nc, .int en, .ref nf, .ref nq, .ref no, .ref nx, .ref ny, .ref nl, .ref nh, .ref nb, .ref nw, .int pl, .ref nt, .int (nI tl), .int (nI pq), .int (nI 0), .long rs])), (nt, .inl (ty.1, 300, .inl (zN tb)))] := by
        intro n9
        induction n9 with
        | zero => intro v sz hn; exact absurd hn (Nat.not_lt_zero _)
        | succ n9 ih67 =>
          intro v sz hn67 hV hq hvv
          refine g_iload_n C dX6_number_67 1 rfl rfl ?_
          refine g_bipush C dX6_number_68 (v := (nI 15)) (by decide) ?_
          refine g_icmp_leN C dX6_number_70 (tgt := 78) (by decide) (by omega) (by omega) (fun h70 => ?_) (fun h70 => ?_)
          · skip
            refine g_aload_n C dX6_number_78 2 rfl rfl ?_
            refine g_dup C dX6_number_79 rfl ?_
            refine g_get C 0 rfl rfl 18 (by decide) (fun _ h => (List.mem_cons_of_mem _ (List.mem_append_right _ h))) 2 rfl rfl rfl dX6_number_80 ?_
            refine g_iload_n C dX6_number_83 0 rfl rfl ?_
            refine g_iadd C dX6_number_84 (v := (nI (pq + sz))) (nI_add _ _) ?_
            refine g_put C 0 rfl rfl 18 (by decide) (fun _ h => (List.mem_cons_of_mem _ (List.mem_append_right _ h))) 2 rfl rfl tyX6 tyX6_ok nmX6 rfl rfl rfl rfl (Nat.le_of_ble_eq_true rfl) (ws' := [(n0, .inr (5, [.int th, .ref np, .ref na, .int cp, .ref nc, .int en, .ref nf, .ref nq, .ref no, .ref nx, .ref ny, .ref nl, .ref nh, .ref nb, .ref nw, .int pl, .ref nt, .int (nI tl), .int (nI (pq + sz)), .int (nI 0), .long rs])), (nt, .inl (ty.1, 300, .inl (zN tb)))]) rfl dX6_number_85 ?_
            refine g_iload_n C dX6_number_88 1 rfl rfl ?_
            refine g_callPS C ⟨g_X0_ok, trivial⟩ (t_X6_constant l D ty v (by omega)) rfl gX6_number_X6_constant 1 (by decide +kernel) rfl ⟨rfl, rfl⟩ ⟨Nat.le_of_ble_eq_true rfl, Nat.le_of_ble_eq_true rfl⟩ (rest := []) [] rfl (Nat.le_of_ble_eq_true rfl) dX6_number_89 ⟨Nat.le_of_ble_eq_true rfl, Nat.le_of_ble_eq_true rfl⟩ rfl (g_kl (fun r hr => ?_))
            subst hr
            refine hR _ _ _ _ _ _ dX6_number_92 ?_ (by omega) (by omega)
            exact ⟨_, _, rfl, Or.inl ⟨_, _, nu_ok hV (by omega), hq, rfl, rfl, rfl⟩⟩
          · skip
            refine g_aload_n C dX6_number_73 2 rfl rfl ?_
            refine g_callUV C ⟨g_X0_ok, trivial⟩ (t_X6_wrong l D ty n0 np na nc nf nq no nx ny nl nh nb nw nt th cp pl en rs tl tb hb htl (nI pq) (nI 0)) rfl gX6_number_X6_wrong 0 (by decide +kernel) rfl ⟨rfl, rfl⟩ ⟨Nat.le_of_ble_eq_true rfl, Nat.le_of_ble_eq_true rfl⟩ (rest := []) (q0 := 0) rfl rfl hA [0, 1] [] rfl rfl rfl (wr := []) rfl rfl rfl (Nat.le_of_ble_eq_true rfl) dX6_number_74 ⟨Nat.le_of_ble_eq_true rfl, Nat.le_of_ble_eq_true rfl⟩ rfl (g_kul (fun r w hr => ?_))
            obtain ⟨rfl, rfl⟩ := hr
            refine g_ws (ws' := [(n0, .inr (5, [.int th, .ref np, .ref na, .int cp, .ref nc, .int en, .ref nf, .ref nq, .ref no, .ref nx, .ref ny, .ref nl, .ref nh, .ref nb, .ref nw, .int pl, .ref nt, .int (nI tl), .int (nI pq), .int (nI 1), .long rs])), (nt, .inl (ty.1, 300, .inl (zN tb)))]) [0, 1] rfl rfl rfl ?_
            refine hR _ _ _ _ _ _ dX6_number_77 ?_ (by omega) (by omega)
            exact ⟨_, _, rfl, Or.inr ⟨_, nu_no hV (by omega), by omega, rfl, rfl⟩⟩
      exact L67 _ ((tb pq) - 48) 1 (Nat.lt_succ_self _) (by first | exact if_pos (by rw [hre_f (by omega)]; exact dg_m1) | exact if_pos (by rw [hre_t h25]; exact h42) | exact (if_neg (by rw [hre_t h25]; exact h42)).trans (congrArg (fun z => (z, pq + 2)) (by omega))) (by omega) (by omega)
    · skip
      have h42b := in_1 h42
      rw [nI_toInt (by decide), nI_toInt (by omega), nI_toInt (by decide)] at h42b
      refine g_bipush C dX6_number_45 (v := (nI 10)) (by decide) ?_
      refine g_iload_n C dX6_number_47 1 rfl rfl ?_
      refine g_imul C dX6_number_48 (v := (nI (10 * ((tb pq) - 48)))) (pk_mul _ _) ?_
      refine g_aload_n C dX6_number_49 2 rfl rfl ?_
      refine g_get C 0 rfl rfl 16 (by decide) (fun _ h => (List.mem_cons_of_mem _ (List.mem_append_right _ h))) 1 rfl rfl rfl dX6_number_50 ?_
      refine g_aload_n C dX6_number_53 2 rfl rfl ?_
      refine g_get C 0 rfl rfl 18 (by decide) (fun _ h => (List.mem_cons_of_mem _ (List.mem_append_right _ h))) 2 rfl rfl rfl dX6_number_54 ?_
      refine g_iconst C dX6_number_57 (v := (nI 1)) (by decide) ?_
      refine g_iadd C dX6_number_58 (v := (nI (pq + 1))) (nI_add _ _) ?_
      refine g_iald C (v := (nI (tb (pq + 1)))) 1 rfl (by omega) (by omega) rfl dX6_number_59 ?_
      refine g_iadd C dX6_number_60 (v := (nI ((10 * ((tb pq) - 48)) + (tb (pq + 1))))) (nI_add _ _) ?_
      refine g_bipush C dX6_number_61 (v := (nI 48)) (by decide) ?_
      refine g_isub C dX6_number_63 (v := (nI (((10 * ((tb pq) - 48)) + (tb (pq + 1))) - 48))) (pk_sub (by omega)) ?_
      refine g_istore_n C dX6_number_64 rfl (by decide) (lv' := [(1, .int (nI (((10 * ((tb pq) - 48)) + (tb (pq + 1))) - 48))), (2, .int (nI 1)), (0, .ref n0)]) rfl ?_
      refine g_iconst C dX6_number_65 (v := (nI 2)) (by decide) ?_
      refine g_istore_n C dX6_number_66 rfl (by decide) (lv' := [(2, .int (nI 2)), (1, .int (nI (((10 * ((tb pq) - 48)) + (tb (pq + 1))) - 48))), (0, .ref n0)]) rfl ?_
      have L67 : ∀ (n9 : Nat) (v sz : Nat), 0 < n9 → (nuV tb tl pq = (v, pq + sz)) → (pq + sz ≤ tl) → (v < 1000) → gG (g_IU A D s) p l e rm_t_X6_number s m args below meth c Q 3 0 0 67 [(2, .int (nI sz)), (1, .int (nI v)), (0, .ref n0)] [] [(n0, .inr (5, [.int th, .ref np, .ref na, .int cp, .ref nc, .int en, .ref nf, .ref nq, .ref no, .ref nx, .ref ny, .ref nl, .ref nh, .ref nb, .ref nw, .int pl, .ref nt, .int (nI tl), .int (nI pq), .int (nI 0), .long rs])), (nt, .inl (ty.1, 300, .inl (zN tb)))] := by
        intro n9
        induction n9 with
        | zero => intro v sz hn; exact absurd hn (Nat.not_lt_zero _)
        | succ n9 ih67 =>
          intro v sz hn67 hV hq hvv
          refine g_iload_n C dX6_number_67 1 rfl rfl ?_
          refine g_bipush C dX6_number_68 (v := (nI 15)) (by decide) ?_
          refine g_icmp_leN C dX6_number_70 (tgt := 78) (by decide) (by omega) (by omega) (fun h70 => ?_) (fun h70 => ?_)
          · skip
            refine g_aload_n C dX6_number_78 2 rfl rfl ?_
            refine g_dup C dX6_number_79 rfl ?_
            refine g_get C 0 rfl rfl 18 (by decide) (fun _ h => (List.mem_cons_of_mem _ (List.mem_append_right _ h))) 2 rfl rfl rfl dX6_number_80 ?_
            refine g_iload_n C dX6_number_83 0 rfl rfl ?_
            refine g_iadd C dX6_number_84 (v := (nI (pq + sz))) (nI_add _ _) ?_
            refine g_put C 0 rfl rfl 18 (by decide) (fun _ h => (List.mem_cons_of_mem _ (List.mem_append_right _ h))) 2 rfl rfl tyX6 tyX6_ok nmX6 rfl rfl rfl rfl (Nat.le_of_ble_eq_true rfl) (ws' := [(n0, .inr (5, [.int th, .ref np, .ref na, .int cp, .ref nc, .int en, .ref nf, .ref nq, .ref no, .ref nx, .ref ny, .ref nl, .ref nh, .ref nb, .ref nw, .int pl, .ref nt, .int (nI tl), .int (nI (pq + sz)), .int (nI 0), .long rs])), (nt, .inl (ty.1, 300, .inl (zN tb)))]) rfl dX6_number_85 ?_
            refine g_iload_n C dX6_number_88 1 rfl rfl ?_
            refine g_callPS C ⟨g_X0_ok, trivial⟩ (t_X6_constant l D ty v (by omega)) rfl gX6_number_X6_constant 1 (by decide +kernel) rfl ⟨rfl, rfl⟩ ⟨Nat.le_of_ble_eq_true rfl, Nat.le_of_ble_eq_true rfl⟩ (rest := []) [] rfl (Nat.le_of_ble_eq_true rfl) dX6_number_89 ⟨Nat.le_of_ble_eq_true rfl, Nat.le_of_ble_eq_true rfl⟩ rfl (g_kl (fun r hr => ?_))
            subst hr
            refine hR _ _ _ _ _ _ dX6_number_92 ?_ (by omega) (by omega)
            exact ⟨_, _, rfl, Or.inl ⟨_, _, nu_ok hV (by omega), hq, rfl, rfl, rfl⟩⟩
          · skip
            refine g_aload_n C dX6_number_73 2 rfl rfl ?_
            refine g_callUV C ⟨g_X0_ok, trivial⟩ (t_X6_wrong l D ty n0 np na nc nf nq no nx ny nl nh nb nw nt th cp pl en rs tl tb hb htl (nI pq) (nI 0)) rfl gX6_number_X6_wrong 0 (by decide +kernel) rfl ⟨rfl, rfl⟩ ⟨Nat.le_of_ble_eq_true rfl, Nat.le_of_ble_eq_true rfl⟩ (rest := []) (q0 := 0) rfl rfl hA [0, 1] [] rfl rfl rfl (wr := []) rfl rfl rfl (Nat.le_of_ble_eq_true rfl) dX6_number_74 ⟨Nat.le_of_ble_eq_true rfl, Nat.le_of_ble_eq_true rfl⟩ rfl (g_kul (fun r w hr => ?_))
            obtain ⟨rfl, rfl⟩ := hr
            refine g_ws (ws' := [(n0, .inr (5, [.int th, .ref np, .ref na, .int cp, .ref nc, .int en, .ref nf, .ref nq, .ref no, .ref nx, .ref ny, .ref nl, .ref nh, .ref nb, .ref nw, .int pl, .ref nt, .int (nI tl), .int (nI pq), .int (nI 1), .long rs])), (nt, .inl (ty.1, 300, .inl (zN tb)))]) [0, 1] rfl rfl rfl ?_
            refine hR _ _ _ _ _ _ dX6_number_77 ?_ (by omega) (by omega)
            exact ⟨_, _, rfl, Or.inr ⟨_, nu_no hV (by omega), by omega, rfl, rfl⟩⟩
      exact L67 _ (((10 * ((tb pq) - 48)) + (tb (pq + 1))) - 48) 2 (Nat.lt_succ_self _) (by first | exact if_pos (by rw [hre_f (by omega)]; exact dg_m1) | exact if_pos (by rw [hre_t h25]; exact h42) | exact (if_neg (by rw [hre_t h25]; exact h42)).trans (congrArg (fun z => (z, pq + 2)) (by omega))) (by omega) (by omega)


set_option maxHeartbeats 4000000 in
set_option maxRecDepth 100000 in
theorem t_X6_formula (l : Launch) (D : va_G) (ty : g_T3) (n0 np na nc nf nq no nx ny nl nh nb nw nt : Nat) (th cp pl en : Int32) (rs : Int64) (tl : Nat) (tb : Nat → Nat) (hb : ∀ i, tb i < 256) (htl : tl ≤ 300) (k dv : Nat) (hP1 : ∀ pq : Nat, pq ≤ tl → g_U l yX6_part wsX6_part ({ frames := 3 * k + 8, cells := 0, slots := 0, locals := 100 * k + 200 } : Room) D ty g_XN [.ref n0, .int (nI dv)] [(n0, .inr (5, [.int th, .ref np, .ref na, .int cp, .ref nc, .int en, .ref nf, .ref nq, .ref no, .ref nx, .ref ny, .ref nl, .ref nh, .ref nb, .ref nw, .int pl, .ref nt, .int (nI tl), .int (nI pq), .int (nI 0), .long rs])), (nt, .inl (ty.1, 300, .inl (zN tb)))] 0 0 (g_ul (fun r w => ∃ at2 wr2, w = [(n0, .inr (5, [.int th, .ref np, .ref na, .int cp, .ref nc, .int en, .ref nf, .ref nq, .ref no, .ref nx, .ref ny, .ref nl, .ref nh, .ref nb, .ref nw, .int pl, .ref nt, .int (nI tl), .int at2, .int wr2, .long rs])), (nt, .inl (ty.1, 300, .inl (zN tb)))] ∧ psM (paK tb tl k pq) tl r at2 wr2))) (pq : Nat) (hp : pq ≤ tl) : g_U l yX6_formula wsX6_formula ({ frames := 3 * k + 9, cells := 0, slots := 0, locals := 100 * k + 230 } : Room) D ty g_XN [.ref n0, .int (nI dv)] [(n0, .inr (5, [.int th, .ref np, .ref na, .int cp, .ref nc, .int en, .ref nf, .ref nq, .ref no, .ref nx, .ref ny, .ref nl, .ref nh, .ref nb, .ref nw, .int pl, .ref nt, .int (nI tl), .int (nI pq), .int (nI 0), .long rs])), (nt, .inl (ty.1, 300, .inl (zN tb)))] 0 0 (g_ul (fun r w => ∃ at2 wr2, w = [(n0, .inr (5, [.int th, .ref np, .ref na, .int cp, .ref nc, .int en, .ref nf, .ref nq, .ref no, .ref nx, .ref ny, .ref nl, .ref nh, .ref nb, .ref nw, .int pl, .ref nt, .int (nI tl), .int at2, .int wr2, .long rs])), (nt, .inl (ty.1, 300, .inl (zN tb)))] ∧ psM (foR tb tl (paK tb tl k) pq) tl r at2 wr2)) := by
  refine g_ofUl (cc := cX6_formula) (nL := 7) (own := RX6) (by decide) rfl rfl g_XN_ok (Nat.le_of_ble_eq_true rfl) ?_
  intro p e s m args below meth c Q A C hA hX hin hR
  refine g_lv (lv' := [(0, .ref n0), (1, .int (nI dv))]) [0, 1] rfl ?_
  refine g_aload_n C dX6_formula_0 0 rfl rfl ?_
  refine g_iload_n C dX6_formula_1 1 rfl rfl ?_
  refine g_callUV C hX (hP1 pq (by omega)) rfl gX6_formula_X6_part 1 (by decide +kernel) rfl ⟨rfl, rfl⟩ ⟨by show _ ≤ _; simp only []; omega, by show _ ≤ _; simp only []; omega⟩ (rest := []) (q0 := 0) rfl rfl hA [0, 1] [] rfl rfl rfl (wr := []) rfl rfl rfl (Nat.le_of_ble_eq_true rfl) dX6_formula_2 ⟨Nat.le_of_ble_eq_true rfl, Nat.le_of_ble_eq_true rfl⟩ rfl (g_kul (fun r2 w hr => ?_))
  obtain ⟨at2, wr2, rfl, hP2⟩ := hr
  refine g_ws (ws' := [(n0, .inr (5, [.int th, .ref np, .ref na, .int cp, .ref nc, .int en, .ref nf, .ref nq, .ref no, .ref nx, .ref ny, .ref nl, .ref nh, .ref nb, .ref nw, .int pl, .ref nt, .int (nI tl), .int at2, .int wr2, .long rs])), (nt, .inl (ty.1, 300, .inl (zN tb)))]) [0, 1] rfl rfl rfl ?_
  refine g_lstore_n C dX6_formula_5 rfl (by decide) (lv' := [(2, .long r2), (0, .ref n0), (1, .int (nI dv))]) rfl ?_
  refine g_aload_n C dX6_formula_6 1 rfl rfl ?_
  refine g_get C 0 rfl rfl 19 (by decide) (fun _ h => (List.mem_cons_of_mem _ (List.mem_append_right _ h))) 1 rfl rfl rfl dX6_formula_7 ?_
  refine g_if_eq C dX6_formula_10 (tgt := 15) (by decide) (fun h10 => ?_) (fun h10 => ?_)
  · skip
    obtain ⟨f2, q2, hA2, hq2, hr2, hpl2, hw2⟩ := psM_ok hP2 h10
    subst hr2
    subst hpl2
    subst hw2
    refine g_aload_n C dX6_formula_15 1 rfl rfl ?_
    refine g_callUV C ⟨g_X0_ok, trivial⟩ (t_X6_next l D ty n0 np na nc nf nq no nx ny nl nh nb nw nt th cp pl en rs tl tb hb htl q2 (by omega) (nI 0)) rfl gX6_formula_X6_next 0 (by decide +kernel) rfl ⟨rfl, rfl⟩ ⟨Nat.le_of_ble_eq_true rfl, Nat.le_of_ble_eq_true rfl⟩ (rest := []) (q0 := 0) rfl rfl hA [0, 1] [] rfl rfl rfl (wr := []) rfl rfl rfl (Nat.le_of_ble_eq_true rfl) dX6_formula_16 ⟨Nat.le_of_ble_eq_true rfl, Nat.le_of_ble_eq_true rfl⟩ rfl (g_kui (fun r w hr => ?_))
    obtain ⟨rfl, rfl⟩ := hr
    have hn16 := nxt_le (tb := tb) (tl := tl) (p := q2) (by omega)
    refine g_ws (ws' := [(n0, .inr (5, [.int th, .ref np, .ref na, .int cp, .ref nc, .int en, .ref nf, .ref nq, .ref no, .ref nx, .ref ny, .ref nl, .ref nh, .ref nb, .ref nw, .int pl, .ref nt, .int (nI tl), .int (nI (nxt tb tl q2)), .int (nI 0), .long rs])), (nt, .inl (ty.1, 300, .inl (zN tb)))]) [0, 1] rfl rfl rfl ?_
    refine g_iconst C dX6_formula_19 (v := (nI 4)) (by decide) ?_
    refine g_bipush C dX6_formula_20 (v := (nI 10)) (by decide) ?_
    refine g_callPS C hX (t_X6_opOf l D ty (hre tb tl (nxt tb tl q2)) 4 10 (by decide) (by decide)) rfl gX6_formula_X6_opOf 3 (by decide +kernel) rfl ⟨rfl, rfl⟩ ⟨Nat.le_of_ble_eq_true rfl, Nat.le_of_ble_eq_true rfl⟩ (rest := []) [] rfl (Nat.le_of_ble_eq_true rfl) dX6_formula_22 ⟨Nat.le_of_ble_eq_true rfl, Nat.le_of_ble_eq_true rfl⟩ rfl (g_ki (fun r hr => ?_))
    subst hr
    rw [show opL (hre tb tl (nxt tb tl q2)) (10 - 4) 4 = opS (hre tb tl (nxt tb tl q2)) 6 4 from opL_6 _]
    refine g_istore C dX6_formula_25 (by decide) (lv' := [(4, .int (opS (hre tb tl (nxt tb tl q2)) 6 4)), (2, .long r2), (0, .ref n0), (1, .int (nI dv))]) rfl ?_
    refine g_iload C dX6_formula_27 0 rfl ?_
    refine g_iconst C dX6_formula_29 (v := (-1)) (by decide) ?_
    refine g_icmp_ne C dX6_formula_30 (tgt := 35) (by decide) (fun h30 => ?_) (fun h30 => ?_)
    · skip
      have ho : ¬ opS (hre tb tl (nxt tb tl q2)) 6 4 = -1 := fun z => h30 (t_eq.mp z)
      obtain ⟨o, ho1, ho2, ho3, ho4⟩ := opS_nI ho
      have hlt := hre_in (tb := tb) (tl := tl) (p := nxt tb tl q2) (by rw [ho4]; exact nI_m1 (by have := sgn_lt o; omega))
      rw [ho3]
      refine g_aload_n C dX6_formula_35 2 rfl rfl ?_
      refine g_dup C dX6_formula_36 rfl ?_
      refine g_get C 0 rfl rfl 18 (by decide) (fun _ h => (List.mem_cons_of_mem _ (List.mem_append_right _ h))) 2 rfl rfl rfl dX6_formula_37 ?_
      refine g_iconst C dX6_formula_40 (v := (nI 1)) (by decide) ?_
      refine g_iadd C dX6_formula_41 (v := (nI ((nxt tb tl q2) + 1))) (nI_add _ _) ?_
      refine g_put C 0 rfl rfl 18 (by decide) (fun _ h => (List.mem_cons_of_mem _ (List.mem_append_right _ h))) 2 rfl rfl tyX6 tyX6_ok nmX6 rfl rfl rfl rfl (Nat.le_of_ble_eq_true rfl) (ws' := [(n0, .inr (5, [.int th, .ref np, .ref na, .int cp, .ref nc, .int en, .ref nf, .ref nq, .ref no, .ref nx, .ref ny, .ref nl, .ref nh, .ref nb, .ref nw, .int pl, .ref nt, .int (nI tl), .int (nI ((nxt tb tl q2) + 1)), .int (nI 0), .long rs])), (nt, .inl (ty.1, 300, .inl (zN tb)))]) rfl dX6_formula_42 ?_
      refine g_aload_n C dX6_formula_45 2 rfl rfl ?_
      refine g_iload_n C dX6_formula_46 3 rfl rfl ?_
      refine g_callUV C hX (hP1 ((nxt tb tl q2) + 1) (by omega)) rfl gX6_formula_X6_part 1 (by decide +kernel) rfl ⟨rfl, rfl⟩ ⟨by show _ ≤ _; simp only []; omega, by show _ ≤ _; simp only []; omega⟩ (rest := []) (q0 := 0) rfl rfl hA [0, 1] [] rfl rfl rfl (wr := []) rfl rfl rfl (Nat.le_of_ble_eq_true rfl) dX6_formula_47 ⟨Nat.le_of_ble_eq_true rfl, Nat.le_of_ble_eq_true rfl⟩ rfl (g_kul (fun r47 w hr => ?_))
      obtain ⟨at47, wr47, rfl, hP47⟩ := hr
      refine g_ws (ws' := [(n0, .inr (5, [.int th, .ref np, .ref na, .int cp, .ref nc, .int en, .ref nf, .ref nq, .ref no, .ref nx, .ref ny, .ref nl, .ref nh, .ref nb, .ref nw, .int pl, .ref nt, .int (nI tl), .int at47, .int wr47, .long rs])), (nt, .inl (ty.1, 300, .inl (zN tb)))]) [0, 1] rfl rfl rfl ?_
      refine g_lstore C dX6_formula_50 (by decide) (lv' := [(5, .long r47), (4, .int (nI o)), (2, .long r2), (0, .ref n0), (1, .int (nI dv))]) rfl ?_
      refine g_aload_n C dX6_formula_52 3 rfl rfl ?_
      refine g_get C 0 rfl rfl 19 (by decide) (fun _ h => (List.mem_cons_of_mem _ (List.mem_append_right _ h))) 1 rfl rfl rfl dX6_formula_53 ?_
      refine g_if_eq C dX6_formula_56 (tgt := 63) (by decide) (fun h56 => ?_) (fun h56 => ?_)
      · skip
        obtain ⟨f47, q3, hA47, hq47, hr47, hpl47, hw47⟩ := psM_ok hP47 h56
        subst hr47
        subst hpl47
        subst hw47
        refine g_iload C dX6_formula_63 1 rfl ?_
        refine g_lload_n C dX6_formula_65 2 rfl rfl ?_
        refine g_lload C dX6_formula_66 0 rfl ?_
        refine g_callPS C ⟨g_X0_ok, trivial⟩ (t_X6_made l D ty o (by omega) r2 r47) rfl gX6_formula_X6_made 3 (by decide +kernel) rfl ⟨rfl, rfl⟩ ⟨Nat.le_of_ble_eq_true rfl, Nat.le_of_ble_eq_true rfl⟩ (rest := []) [] rfl (Nat.le_of_ble_eq_true rfl) dX6_formula_68 ⟨Nat.le_of_ble_eq_true rfl, Nat.le_of_ble_eq_true rfl⟩ rfl (g_kl (fun r hr => ?_))
        subst hr
        rw [md_ma (by omega)]
        refine hR _ _ _ _ _ _ dX6_formula_71 ?_ (by omega) (by omega)
        first
        | exact ⟨_, _, rfl, Or.inl ⟨_, _, fo_2 hA2 ho3 (by omega) hA47, hq47, rfl, rfl, rfl⟩⟩
        | exact ⟨_, _, rfl, Or.inr ⟨_, fo_2e hA2 ho hA47, hq47, hpl47, hw47⟩⟩
      · skip
        obtain ⟨e47, hA47, hq47, hpl47, hw47⟩ := psM_er hP47 h56
        refine g_lconst C dX6_formula_59 (v := 0) (by decide) ?_
        refine g_goto C dX6_formula_60 (tgt := 71) (by decide) ?_
        refine hR _ _ _ _ _ _ dX6_formula_71 ?_ (by omega) (by omega)
        first
        | exact ⟨_, _, rfl, Or.inl ⟨_, _, fo_2 hA2 ho3 (by omega) hA47, hq47, rfl, rfl, rfl⟩⟩
        | exact ⟨_, _, rfl, Or.inr ⟨_, fo_2e hA2 ho hA47, hq47, hpl47, hw47⟩⟩
    · skip
      have ho : opS (hre tb tl (nxt tb tl q2)) 6 4 = -1 := t_eq.mpr h30
      refine g_lload_n C dX6_formula_33 1 rfl rfl ?_
      refine hR _ _ _ _ _ _ dX6_formula_34 ?_ (by omega) (by omega)
      exact ⟨_, _, rfl, Or.inl ⟨_, _, fo_0 hA2 ho, by omega, rfl, rfl, rfl⟩⟩
  · skip
    obtain ⟨e2, hA2, hq2, hpl2, hw2⟩ := psM_er hP2 h10
    refine g_lconst C dX6_formula_13 (v := 0) (by decide) ?_
    refine hR _ _ _ _ _ _ dX6_formula_14 ?_ (by omega) (by omega)
    exact ⟨_, _, rfl, Or.inr ⟨_, fo_e hA2, hq2, hpl2, hw2⟩⟩


set_option maxHeartbeats 4000000 in
set_option maxRecDepth 100000 in
theorem t_X6_part (l : Launch) (D : va_G) (ty : g_T3) (n0 np na nc nf nq no nx ny nl nh nb nw nt : Nat) (th cp pl en : Int32) (rs : Int64) (tl : Nat) (tb : Nat → Nat) (hb : ∀ i, tb i < 256) (htl : tl ≤ 300) (k dv : Nat) (hkd : dv + k = 20) (hF1 : 0 < k → ∀ pq : Nat, pq ≤ tl → g_U l yX6_formula wsX6_formula ({ frames := 3 * (k - 1) + 9, cells := 0, slots := 0, locals := 100 * (k - 1) + 230 } : Room) D ty g_XN [.ref n0, .int (nI (dv + 1))] [(n0, .inr (5, [.int th, .ref np, .ref na, .int cp, .ref nc, .int en, .ref nf, .ref nq, .ref no, .ref nx, .ref ny, .ref nl, .ref nh, .ref nb, .ref nw, .int pl, .ref nt, .int (nI tl), .int (nI pq), .int (nI 0), .long rs])), (nt, .inl (ty.1, 300, .inl (zN tb)))] 0 0 (g_ul (fun r w => ∃ at2 wr2, w = [(n0, .inr (5, [.int th, .ref np, .ref na, .int cp, .ref nc, .int en, .ref nf, .ref nq, .ref no, .ref nx, .ref ny, .ref nl, .ref nh, .ref nb, .ref nw, .int pl, .ref nt, .int (nI tl), .int at2, .int wr2, .long rs])), (nt, .inl (ty.1, 300, .inl (zN tb)))] ∧ psM (foR tb tl (paK tb tl (k - 1)) pq) tl r at2 wr2))) (hQ1 : 0 < k → ∀ pq : Nat, pq ≤ tl → g_U l yX6_part wsX6_part ({ frames := 3 * (k - 1) + 8, cells := 0, slots := 0, locals := 100 * (k - 1) + 200 } : Room) D ty g_XN [.ref n0, .int (nI (dv + 1))] [(n0, .inr (5, [.int th, .ref np, .ref na, .int cp, .ref nc, .int en, .ref nf, .ref nq, .ref no, .ref nx, .ref ny, .ref nl, .ref nh, .ref nb, .ref nw, .int pl, .ref nt, .int (nI tl), .int (nI pq), .int (nI 0), .long rs])), (nt, .inl (ty.1, 300, .inl (zN tb)))] 0 0 (g_ul (fun r w => ∃ at2 wr2, w = [(n0, .inr (5, [.int th, .ref np, .ref na, .int cp, .ref nc, .int en, .ref nf, .ref nq, .ref no, .ref nx, .ref ny, .ref nl, .ref nh, .ref nb, .ref nw, .int pl, .ref nt, .int (nI tl), .int at2, .int wr2, .long rs])), (nt, .inl (ty.1, 300, .inl (zN tb)))] ∧ psM (paK tb tl (k - 1) pq) tl r at2 wr2))) (pq : Nat) (hp : pq ≤ tl) : g_U l yX6_part wsX6_part ({ frames := 3 * k + 8, cells := 0, slots := 0, locals := 100 * k + 200 } : Room) D ty g_XN [.ref n0, .int (nI dv)] [(n0, .inr (5, [.int th, .ref np, .ref na, .int cp, .ref nc, .int en, .ref nf, .ref nq, .ref no, .ref nx, .ref ny, .ref nl, .ref nh, .ref nb, .ref nw, .int pl, .ref nt, .int (nI tl), .int (nI pq), .int (nI 0), .long rs])), (nt, .inl (ty.1, 300, .inl (zN tb)))] 0 0 (g_ul (fun r w => ∃ at2 wr2, w = [(n0, .inr (5, [.int th, .ref np, .ref na, .int cp, .ref nc, .int en, .ref nf, .ref nq, .ref no, .ref nx, .ref ny, .ref nl, .ref nh, .ref nb, .ref nw, .int pl, .ref nt, .int (nI tl), .int at2, .int wr2, .long rs])), (nt, .inl (ty.1, 300, .inl (zN tb)))] ∧ psM (paK tb tl k pq) tl r at2 wr2)) := by
  refine g_ofUl (cc := cX6_part) (nL := 6) (own := RX6) (by decide) rfl rfl g_XN_ok (Nat.le_of_ble_eq_true rfl) ?_
  intro p e s m args below meth c Q A C hA hX hin hR
  refine g_lv (lv' := [(0, .ref n0), (1, .int (nI dv))]) [0, 1] rfl ?_
  refine g_aload_n C dX6_part_0 0 rfl rfl ?_
  refine g_callUV C ⟨g_X0_ok, trivial⟩ (t_X6_next l D ty n0 np na nc nf nq no nx ny nl nh nb nw nt th cp pl en rs tl tb hb htl pq (by omega) (nI 0)) rfl gX6_part_X6_next 0 (by decide +kernel) rfl ⟨rfl, rfl⟩ ⟨Nat.le_of_ble_eq_true rfl, Nat.le_of_ble_eq_true rfl⟩ (rest := []) (q0 := 0) rfl rfl hA [0, 1] [] rfl rfl rfl (wr := []) rfl rfl rfl (Nat.le_of_ble_eq_true rfl) dX6_part_1 ⟨Nat.le_of_ble_eq_true rfl, Nat.le_of_ble_eq_true rfl⟩ rfl (g_kui (fun r w hr => ?_))
  obtain ⟨rfl, rfl⟩ := hr
  have hn1 := nxt_le (tb := tb) (tl := tl) (p := pq) (by omega)
  refine g_ws (ws' := [(n0, .inr (5, [.int th, .ref np, .ref na, .int cp, .ref nc, .int en, .ref nf, .ref nq, .ref no, .ref nx, .ref ny, .ref nl, .ref nh, .ref nb, .ref nw, .int pl, .ref nt, .int (nI tl), .int (nI (nxt tb tl pq)), .int (nI 0), .long rs])), (nt, .inl (ty.1, 300, .inl (zN tb)))]) [0, 1] rfl rfl rfl ?_
  refine g_istore_n C dX6_part_4 rfl (by decide) (lv' := [(2, .int (hre tb tl (nxt tb tl pq))), (0, .ref n0), (1, .int (nI dv))]) rfl ?_
  refine g_iload_n C dX6_part_5 0 rfl rfl ?_
  refine g_bipush C dX6_part_6 (v := (nI 120)) (by decide) ?_
  refine g_icmp_ne C dX6_part_8 (tgt := 25) (by decide) (fun h8 => ?_) (fun h8 => ?_)
  · skip
    have h120 : ¬ (hre tb tl (nxt tb tl pq)) = nI 120 := fun z => h8 (t_eq.mp z)
    refine g_iload_n C dX6_part_25 0 rfl rfl ?_
    refine g_callPS C ⟨g_X0_ok, trivial⟩ (t_X6_isDigit l D ty (hre tb tl (nxt tb tl pq))) rfl gX6_part_X6_isDigit 1 (by decide +kernel) rfl ⟨rfl, rfl⟩ ⟨Nat.le_of_ble_eq_true rfl, Nat.le_of_ble_eq_true rfl⟩ (rest := []) [] rfl (Nat.le_of_ble_eq_true rfl) dX6_part_26 ⟨Nat.le_of_ble_eq_true rfl, Nat.le_of_ble_eq_true rfl⟩ rfl (g_ki (fun r hr => ?_))
    subst hr
    have := bt_lt (inB (hre tb tl (nxt tb tl pq)) (nI 48) (nI 57))
    refine g_if_eqN C dX6_part_29 (tgt := 37) (by decide) (by omega) (fun h29 => ?_) (fun h29 => ?_)
    · skip
      refine g_iload_n C dX6_part_37 0 rfl rfl ?_
      refine g_iconst C dX6_part_38 (v := (nI 0)) (by decide) ?_
      refine g_iconst C dX6_part_39 (v := (nI 4)) (by decide) ?_
      refine g_callPS C hX (t_X6_opOf l D ty (hre tb tl (nxt tb tl pq)) 0 4 (by decide) (by decide)) rfl gX6_part_X6_opOf 3 (by decide +kernel) rfl ⟨rfl, rfl⟩ ⟨Nat.le_of_ble_eq_true rfl, Nat.le_of_ble_eq_true rfl⟩ (rest := []) [] rfl (Nat.le_of_ble_eq_true rfl) dX6_part_40 ⟨Nat.le_of_ble_eq_true rfl, Nat.le_of_ble_eq_true rfl⟩ rfl (g_ki (fun r hr => ?_))
      subst hr
      rw [show opL (hre tb tl (nxt tb tl pq)) (4 - 0) 0 = opS (hre tb tl (nxt tb tl pq)) 4 0 from opL_4 _]
      refine g_istore_n C dX6_part_43 rfl (by decide) (lv' := [(3, .int (opS (hre tb tl (nxt tb tl pq)) 4 0)), (2, .int (hre tb tl (nxt tb tl pq))), (0, .ref n0), (1, .int (nI dv))]) rfl ?_
      refine g_iload_n C dX6_part_44 0 rfl rfl ?_
      refine g_iconst C dX6_part_45 (v := (-1)) (by decide) ?_
      refine g_icmp_ne C dX6_part_46 (tgt := 55) (by decide) (fun h46 => ?_) (fun h46 => ?_)
      · skip
        have L55 : ∀ (n9 : Nat) , 0 < n9 → (¬ (¬ (hre tb tl (nxt tb tl pq)) = nI 40 ∧ opS (hre tb tl (nxt tb tl pq)) 4 0 = -1)) → gG (g_IU A D s) p l e ({ frames := 3 * k + 8, cells := 0, slots := 0, locals := 100 * k + 200 } : Room) s m args below meth c Q 6 0 0 55 [(3, .int (opS (hre tb tl (nxt tb tl pq)) 4 0)), (2, .int (hre tb tl (nxt tb tl pq))), (0, .ref n0), (1, .int (nI dv))] [] [(n0, .inr (5, [.int th, .ref np, .ref na, .int cp, .ref nc, .int en, .ref nf, .ref nq, .ref no, .ref nx, .ref ny, .ref nl, .ref nh, .ref nb, .ref nw, .int pl, .ref nt, .int (nI tl), .int (nI (nxt tb tl pq)), .int (nI 0), .long rs])), (nt, .inl (ty.1, 300, .inl (zN tb)))] := by
          intro n9
          induction n9 with
          | zero => intro  hn; exact absurd hn (Nat.not_lt_zero _)
          | succ n9 ih55 =>
            intro  hn55 h67
            refine g_iload_n C dX6_part_55 3 rfl rfl ?_
            refine g_bipush C dX6_part_56 (v := (nI 20)) (by decide) ?_
            refine g_icmp_neN C dX6_part_58 (tgt := 66) (by decide) (by omega) (by omega) (fun h58 => ?_) (fun h58 => ?_)
            · skip
              have hk : 0 < k := by omega
              have hlt : nxt tb tl pq < tl := hre_in (fun z => by by_cases q40 : (hre tb tl (nxt tb tl pq)) = nI 40; rw [z] at q40; exact absurd q40 (by decide); obtain ⟨o, o1, o2, o3, o4⟩ := opS_nI (fun y => h67 ⟨q40, y⟩); rw [z] at o4; exact nI_m1 (by have := sgn_lt o; omega) o4.symm)
              refine g_aload_n C dX6_part_66 2 rfl rfl ?_
              refine g_dup C dX6_part_67 rfl ?_
              refine g_get C 0 rfl rfl 18 (by decide) (fun _ h => (List.mem_cons_of_mem _ (List.mem_append_right _ h))) 1 rfl rfl rfl dX6_part_68 ?_
              refine g_iconst C dX6_part_71 (v := (nI 1)) (by decide) ?_
              refine g_iadd C dX6_part_72 (v := (nI ((nxt tb tl pq) + 1))) (nI_add _ _) ?_
              refine g_put C 0 rfl rfl 18 (by decide) (fun _ h => (List.mem_cons_of_mem _ (List.mem_append_right _ h))) 1 rfl rfl tyX6 tyX6_ok nmX6 rfl rfl rfl rfl (Nat.le_of_ble_eq_true rfl) (ws' := [(n0, .inr (5, [.int th, .ref np, .ref na, .int cp, .ref nc, .int en, .ref nf, .ref nq, .ref no, .ref nx, .ref ny, .ref nl, .ref nh, .ref nb, .ref nw, .int pl, .ref nt, .int (nI tl), .int (nI ((nxt tb tl pq) + 1)), .int (nI 0), .long rs])), (nt, .inl (ty.1, 300, .inl (zN tb)))]) rfl dX6_part_73 ?_
              refine g_iload_n C dX6_part_76 0 rfl rfl ?_
              refine g_iconst C dX6_part_77 (v := (-1)) (by decide) ?_
              refine g_icmp_eq C dX6_part_78 (tgt := 109) (by decide) (fun h78 => ?_) (fun h78 => ?_)
              · skip
                have h40 : (hre tb tl (nxt tb tl pq)) = nI 40 := Classical.byContradiction (fun z => h67 ⟨z, t_eq.mpr h78⟩)
                refine g_aload_n C dX6_part_109 2 rfl rfl ?_
                refine g_iload_n C dX6_part_110 3 rfl rfl ?_
                refine g_iconst C dX6_part_111 (v := (nI 1)) (by decide) ?_
                refine g_iadd C dX6_part_112 (v := (nI (dv + 1))) (nI_add _ _) ?_
                refine g_callUV C hX (hF1 hk ((nxt tb tl pq) + 1) (by omega)) rfl gX6_part_X6_formula 1 (by decide +kernel) rfl ⟨rfl, rfl⟩ ⟨by show _ ≤ _; simp only []; omega, by show _ ≤ _; simp only []; omega⟩ (rest := []) (q0 := 0) rfl rfl hA [0, 1] [] rfl rfl rfl (wr := []) rfl rfl rfl (Nat.le_of_ble_eq_true rfl) dX6_part_113 ⟨Nat.le_of_ble_eq_true rfl, Nat.le_of_ble_eq_true rfl⟩ rfl (g_kul (fun r113 w hr => ?_))
                obtain ⟨at113, wr113, rfl, hP113⟩ := hr
                refine g_ws (ws' := [(n0, .inr (5, [.int th, .ref np, .ref na, .int cp, .ref nc, .int en, .ref nf, .ref nq, .ref no, .ref nx, .ref ny, .ref nl, .ref nh, .ref nb, .ref nw, .int pl, .ref nt, .int (nI tl), .int at113, .int wr113, .long rs])), (nt, .inl (ty.1, 300, .inl (zN tb)))]) [0, 1] rfl rfl rfl ?_
                refine g_lstore C dX6_part_116 (by decide) (lv' := [(4, .long r113), (3, .int (opS (hre tb tl (nxt tb tl pq)) 4 0)), (2, .int (hre tb tl (nxt tb tl pq))), (0, .ref n0), (1, .int (nI dv))]) rfl ?_
                refine g_aload_n C dX6_part_118 3 rfl rfl ?_
                refine g_get C 0 rfl rfl 19 (by decide) (fun _ h => (List.mem_cons_of_mem _ (List.mem_append_right _ h))) 3 rfl rfl rfl dX6_part_119 ?_
                refine g_if_eq C dX6_part_122 (tgt := 127) (by decide) (fun h122 => ?_) (fun h122 => ?_)
                · skip
                  obtain ⟨f113, q3, hA113, hq113, hr113, hpl113, hw113⟩ := psM_ok hP113 h122
                  subst hr113
                  subst hpl113
                  subst hw113
                  refine g_aload_n C dX6_part_127 3 rfl rfl ?_
                  refine g_callUV C ⟨g_X0_ok, trivial⟩ (t_X6_next l D ty n0 np na nc nf nq no nx ny nl nh nb nw nt th cp pl en rs tl tb hb htl q3 (by omega) (nI 0)) rfl gX6_part_X6_next 0 (by decide +kernel) rfl ⟨rfl, rfl⟩ ⟨Nat.le_of_ble_eq_true rfl, Nat.le_of_ble_eq_true rfl⟩ (rest := []) (q0 := 0) rfl rfl hA [0, 1] [] rfl rfl rfl (wr := []) rfl rfl rfl (Nat.le_of_ble_eq_true rfl) dX6_part_128 ⟨Nat.le_of_ble_eq_true rfl, Nat.le_of_ble_eq_true rfl⟩ rfl (g_kui (fun r w hr => ?_))
                  obtain ⟨rfl, rfl⟩ := hr
                  have hn128 := nxt_le (tb := tb) (tl := tl) (p := q3) (by omega)
                  refine g_ws (ws' := [(n0, .inr (5, [.int th, .ref np, .ref na, .int cp, .ref nc, .int en, .ref nf, .ref nq, .ref no, .ref nx, .ref ny, .ref nl, .ref nh, .ref nb, .ref nw, .int pl, .ref nt, .int (nI tl), .int (nI (nxt tb tl q3)), .int (nI 0), .long rs])), (nt, .inl (ty.1, 300, .inl (zN tb)))]) [0, 1] rfl rfl rfl ?_
                  refine g_bipush C dX6_part_131 (v := (nI 41)) (by decide) ?_
                  refine g_icmp_eq C dX6_part_133 (tgt := 141) (by decide) (fun h133 => ?_) (fun h133 => ?_)
                  · skip
                    have h41 : hre tb tl (nxt tb tl q3) = nI 41 := t_eq.mpr h133
                    have hlt2 := hre_nI (by decide) h41
                    refine g_aload_n C dX6_part_141 3 rfl rfl ?_
                    refine g_dup C dX6_part_142 rfl ?_
                    refine g_get C 0 rfl rfl 18 (by decide) (fun _ h => (List.mem_cons_of_mem _ (List.mem_append_right _ h))) 1 rfl rfl rfl dX6_part_143 ?_
                    refine g_iconst C dX6_part_146 (v := (nI 1)) (by decide) ?_
                    refine g_iadd C dX6_part_147 (v := (nI ((nxt tb tl q3) + 1))) (nI_add _ _) ?_
                    refine g_put C 0 rfl rfl 18 (by decide) (fun _ h => (List.mem_cons_of_mem _ (List.mem_append_right _ h))) 1 rfl rfl tyX6 tyX6_ok nmX6 rfl rfl rfl rfl (Nat.le_of_ble_eq_true rfl) (ws' := [(n0, .inr (5, [.int th, .ref np, .ref na, .int cp, .ref nc, .int en, .ref nf, .ref nq, .ref no, .ref nx, .ref ny, .ref nl, .ref nh, .ref nb, .ref nw, .int pl, .ref nt, .int (nI tl), .int (nI ((nxt tb tl q3) + 1)), .int (nI 0), .long rs])), (nt, .inl (ty.1, 300, .inl (zN tb)))]) rfl dX6_part_148 ?_
                    refine g_lload C dX6_part_151 0 rfl ?_
                    refine hR _ _ _ _ _ _ dX6_part_153 ?_ (by omega) (by omega)
                    exact ⟨_, _, rfl, Or.inl ⟨_, _, by rw [pa_b h120 h29 h40 hk]; exact en_ok hA113 h41, by omega, rfl, rfl, rfl⟩⟩
                  · skip
                    have h41 : ¬ hre tb tl (nxt tb tl q3) = nI 41 := fun z => h133 (t_eq.mp z)
                    refine g_aload_n C dX6_part_136 3 rfl rfl ?_
                    refine g_callUV C ⟨g_X0_ok, trivial⟩ (t_X6_wrong l D ty n0 np na nc nf nq no nx ny nl nh nb nw nt th cp pl en rs tl tb hb htl (nI (nxt tb tl q3)) (nI 0)) rfl gX6_part_X6_wrong 0 (by decide +kernel) rfl ⟨rfl, rfl⟩ ⟨Nat.le_of_ble_eq_true rfl, Nat.le_of_ble_eq_true rfl⟩ (rest := []) (q0 := 0) rfl rfl hA [0, 1] [] rfl rfl rfl (wr := []) rfl rfl rfl (Nat.le_of_ble_eq_true rfl) dX6_part_137 ⟨Nat.le_of_ble_eq_true rfl, Nat.le_of_ble_eq_true rfl⟩ rfl (g_kul (fun r w hr => ?_))
                    obtain ⟨rfl, rfl⟩ := hr
                    refine g_ws (ws' := [(n0, .inr (5, [.int th, .ref np, .ref na, .int cp, .ref nc, .int en, .ref nf, .ref nq, .ref no, .ref nx, .ref ny, .ref nl, .ref nh, .ref nb, .ref nw, .int pl, .ref nt, .int (nI tl), .int (nI (nxt tb tl q3)), .int (nI 1), .long rs])), (nt, .inl (ty.1, 300, .inl (zN tb)))]) [0, 1] rfl rfl rfl ?_
                    refine hR _ _ _ _ _ _ dX6_part_140 ?_ (by omega) (by omega)
                    exact ⟨_, _, rfl, Or.inr ⟨_, by rw [pa_b h120 h29 h40 hk]; exact en_no hA113 h41, by omega, rfl, rfl⟩⟩
                · skip
                  obtain ⟨e113, hA113, hq113, hpl113, hw113⟩ := psM_er hP113 h122
                  refine g_lconst C dX6_part_125 (v := 0) (by decide) ?_
                  refine hR _ _ _ _ _ _ dX6_part_126 ?_ (by omega) (by omega)
                  exact ⟨_, _, rfl, Or.inr ⟨_, by rw [pa_b h120 h29 h40 hk]; exact en_e hA113, hq113, hpl113, hw113⟩⟩
              · skip
                have ho : ¬ opS (hre tb tl (nxt tb tl pq)) 4 0 = -1 := fun z => h78 (t_eq.mp z)
                have h40 : ¬ (hre tb tl (nxt tb tl pq)) = nI 40 := fun z => ho (by rw [z]; exact op_40)
                obtain ⟨o, ho1, ho2, ho3, ho4⟩ := opS_nI ho
                rw [ho3]
                refine g_aload_n C dX6_part_81 2 rfl rfl ?_
                refine g_iload_n C dX6_part_82 3 rfl rfl ?_
                refine g_iconst C dX6_part_83 (v := (nI 1)) (by decide) ?_
                refine g_iadd C dX6_part_84 (v := (nI (dv + 1))) (nI_add _ _) ?_
                refine g_callUV C hX (hQ1 hk ((nxt tb tl pq) + 1) (by omega)) rfl gX6_part_X6_part 1 (by decide +kernel) rfl ⟨rfl, rfl⟩ ⟨by show _ ≤ _; simp only []; omega, by show _ ≤ _; simp only []; omega⟩ (rest := []) (q0 := 0) rfl rfl hA [0, 1] [] rfl rfl rfl (wr := []) rfl rfl rfl (Nat.le_of_ble_eq_true rfl) dX6_part_85 ⟨Nat.le_of_ble_eq_true rfl, Nat.le_of_ble_eq_true rfl⟩ rfl (g_kul (fun r85 w hr => ?_))
                obtain ⟨at85, wr85, rfl, hP85⟩ := hr
                refine g_ws (ws' := [(n0, .inr (5, [.int th, .ref np, .ref na, .int cp, .ref nc, .int en, .ref nf, .ref nq, .ref no, .ref nx, .ref ny, .ref nl, .ref nh, .ref nb, .ref nw, .int pl, .ref nt, .int (nI tl), .int at85, .int wr85, .long rs])), (nt, .inl (ty.1, 300, .inl (zN tb)))]) [0, 1] rfl rfl rfl ?_
                refine g_lstore C dX6_part_88 (by decide) (lv' := [(4, .long r85), (3, .int (nI o)), (2, .int (hre tb tl (nxt tb tl pq))), (0, .ref n0), (1, .int (nI dv))]) rfl ?_
                refine g_aload_n C dX6_part_90 3 rfl rfl ?_
                refine g_get C 0 rfl rfl 19 (by decide) (fun _ h => (List.mem_cons_of_mem _ (List.mem_append_right _ h))) 3 rfl rfl rfl dX6_part_91 ?_
                refine g_if_eq C dX6_part_94 (tgt := 101) (by decide) (fun h94 => ?_) (fun h94 => ?_)
                · skip
                  obtain ⟨f85, q3, hA85, hq85, hr85, hpl85, hw85⟩ := psM_ok hP85 h94
                  subst hr85
                  subst hpl85
                  subst hw85
                  refine g_iload_n C dX6_part_101 1 rfl rfl ?_
                  refine g_lload C dX6_part_102 0 rfl ?_
                  refine g_lconst C dX6_part_104 (v := 0) (by decide) ?_
                  refine g_callPS C ⟨g_X0_ok, trivial⟩ (t_X6_made l D ty o (by omega) r85 0) rfl gX6_part_X6_made 3 (by decide +kernel) rfl ⟨rfl, rfl⟩ ⟨Nat.le_of_ble_eq_true rfl, Nat.le_of_ble_eq_true rfl⟩ (rest := []) [] rfl (Nat.le_of_ble_eq_true rfl) dX6_part_105 ⟨Nat.le_of_ble_eq_true rfl, Nat.le_of_ble_eq_true rfl⟩ rfl (g_kl (fun r hr => ?_))
                  subst hr
                  rw [md_ma (by omega)]
                  refine hR _ _ _ _ _ _ dX6_part_108 ?_ (by omega) (by omega)
                  first
                  | exact ⟨_, _, rfl, Or.inl ⟨_, _, by rw [pa_u h120 h29 h40 ho3 (by omega) hk, hA85]; rfl, hq85, rfl, rfl, rfl⟩⟩
                  | exact ⟨_, _, rfl, Or.inr ⟨_, by rw [pa_u h120 h29 h40 ho3 (by omega) hk, hA85]; rfl, hq85, hpl85, hw85⟩⟩
                · skip
                  obtain ⟨e85, hA85, hq85, hpl85, hw85⟩ := psM_er hP85 h94
                  refine g_lconst C dX6_part_97 (v := 0) (by decide) ?_
                  refine g_goto C dX6_part_98 (tgt := 108) (by decide) ?_
                  refine hR _ _ _ _ _ _ dX6_part_108 ?_ (by omega) (by omega)
                  first
                  | exact ⟨_, _, rfl, Or.inl ⟨_, _, by rw [pa_u h120 h29 h40 ho3 (by omega) hk, hA85]; rfl, hq85, rfl, rfl, rfl⟩⟩
                  | exact ⟨_, _, rfl, Or.inr ⟨_, by rw [pa_u h120 h29 h40 ho3 (by omega) hk, hA85]; rfl, hq85, hpl85, hw85⟩⟩
            · skip
              have L61 : ∀ (n9 : Nat) , 0 < n9 → ((¬ (hre tb tl (nxt tb tl pq)) = nI 40 ∧ opS (hre tb tl (nxt tb tl pq)) 4 0 = -1) ∨ k = 0) → gG (g_IU A D s) p l e ({ frames := 3 * k + 8, cells := 0, slots := 0, locals := 100 * k + 200 } : Room) s m args below meth c Q 6 0 0 61 [(0, .ref n0), (1, .int (nI dv))] [] [(n0, .inr (5, [.int th, .ref np, .ref na, .int cp, .ref nc, .int en, .ref nf, .ref nq, .ref no, .ref nx, .ref ny, .ref nl, .ref nh, .ref nb, .ref nw, .int pl, .ref nt, .int (nI tl), .int (nI (nxt tb tl pq)), .int (nI 0), .long rs])), (nt, .inl (ty.1, 300, .inl (zN tb)))] := by
                intro n9
                induction n9 with
                | zero => intro  hn; exact absurd hn (Nat.not_lt_zero _)
                | succ n9 ih61 =>
                  intro  hn61 h73
                  refine g_aload_n C dX6_part_61 0 rfl rfl ?_
                  refine g_callUV C ⟨g_X0_ok, trivial⟩ (t_X6_wrong l D ty n0 np na nc nf nq no nx ny nl nh nb nw nt th cp pl en rs tl tb hb htl (nI (nxt tb tl pq)) (nI 0)) rfl gX6_part_X6_wrong 0 (by decide +kernel) rfl ⟨rfl, rfl⟩ ⟨Nat.le_of_ble_eq_true rfl, Nat.le_of_ble_eq_true rfl⟩ (rest := []) (q0 := 0) rfl rfl hA [0, 1] [] rfl rfl rfl (wr := []) rfl rfl rfl (Nat.le_of_ble_eq_true rfl) dX6_part_62 ⟨Nat.le_of_ble_eq_true rfl, Nat.le_of_ble_eq_true rfl⟩ rfl (g_kul (fun r w hr => ?_))
                  obtain ⟨rfl, rfl⟩ := hr
                  refine g_ws (ws' := [(n0, .inr (5, [.int th, .ref np, .ref na, .int cp, .ref nc, .int en, .ref nf, .ref nq, .ref no, .ref nx, .ref ny, .ref nl, .ref nh, .ref nb, .ref nw, .int pl, .ref nt, .int (nI tl), .int (nI (nxt tb tl pq)), .int (nI 1), .long rs])), (nt, .inl (ty.1, 300, .inl (zN tb)))]) [0, 1] rfl rfl rfl ?_
                  refine hR _ _ _ _ _ _ dX6_part_65 ?_ (by omega) (by omega)
                  exact ⟨_, _, rfl, Or.inr ⟨_, pa_e h120 h29 h73, by omega, rfl, rfl⟩⟩
              refine g_lv [2, 3] rfl ?_
              exact L61 _  (Nat.lt_succ_self _) (by first | exact Or.inr (by omega) | exact Or.inl ⟨fun z => h52 (t_eq.mp z), t_eq.mpr h46⟩)
        exact L55 _  (Nat.lt_succ_self _) (by first | exact fun z => h46 (t_eq.mp z.2) | exact fun z => z.1 (t_eq.mpr h52))
      · skip
        refine g_iload_n C dX6_part_49 1 rfl rfl ?_
        refine g_bipush C dX6_part_50 (v := (nI 40)) (by decide) ?_
        refine g_icmp_ne C dX6_part_52 (tgt := 61) (by decide) (fun h52 => ?_) (fun h52 => ?_)
        · skip
          have L61 : ∀ (n9 : Nat) , 0 < n9 → ((¬ (hre tb tl (nxt tb tl pq)) = nI 40 ∧ opS (hre tb tl (nxt tb tl pq)) 4 0 = -1) ∨ k = 0) → gG (g_IU A D s) p l e ({ frames := 3 * k + 8, cells := 0, slots := 0, locals := 100 * k + 200 } : Room) s m args below meth c Q 6 0 0 61 [(0, .ref n0), (1, .int (nI dv))] [] [(n0, .inr (5, [.int th, .ref np, .ref na, .int cp, .ref nc, .int en, .ref nf, .ref nq, .ref no, .ref nx, .ref ny, .ref nl, .ref nh, .ref nb, .ref nw, .int pl, .ref nt, .int (nI tl), .int (nI (nxt tb tl pq)), .int (nI 0), .long rs])), (nt, .inl (ty.1, 300, .inl (zN tb)))] := by
            intro n9
            induction n9 with
            | zero => intro  hn; exact absurd hn (Nat.not_lt_zero _)
            | succ n9 ih61 =>
              intro  hn61 h73
              refine g_aload_n C dX6_part_61 0 rfl rfl ?_
              refine g_callUV C ⟨g_X0_ok, trivial⟩ (t_X6_wrong l D ty n0 np na nc nf nq no nx ny nl nh nb nw nt th cp pl en rs tl tb hb htl (nI (nxt tb tl pq)) (nI 0)) rfl gX6_part_X6_wrong 0 (by decide +kernel) rfl ⟨rfl, rfl⟩ ⟨Nat.le_of_ble_eq_true rfl, Nat.le_of_ble_eq_true rfl⟩ (rest := []) (q0 := 0) rfl rfl hA [0, 1] [] rfl rfl rfl (wr := []) rfl rfl rfl (Nat.le_of_ble_eq_true rfl) dX6_part_62 ⟨Nat.le_of_ble_eq_true rfl, Nat.le_of_ble_eq_true rfl⟩ rfl (g_kul (fun r w hr => ?_))
              obtain ⟨rfl, rfl⟩ := hr
              refine g_ws (ws' := [(n0, .inr (5, [.int th, .ref np, .ref na, .int cp, .ref nc, .int en, .ref nf, .ref nq, .ref no, .ref nx, .ref ny, .ref nl, .ref nh, .ref nb, .ref nw, .int pl, .ref nt, .int (nI tl), .int (nI (nxt tb tl pq)), .int (nI 1), .long rs])), (nt, .inl (ty.1, 300, .inl (zN tb)))]) [0, 1] rfl rfl rfl ?_
              refine hR _ _ _ _ _ _ dX6_part_65 ?_ (by omega) (by omega)
              exact ⟨_, _, rfl, Or.inr ⟨_, pa_e h120 h29 h73, by omega, rfl, rfl⟩⟩
          refine g_lv [2, 3] rfl ?_
          exact L61 _  (Nat.lt_succ_self _) (by first | exact Or.inr (by omega) | exact Or.inl ⟨fun z => h52 (t_eq.mp z), t_eq.mpr h46⟩)
        · skip
          have L55 : ∀ (n9 : Nat) , 0 < n9 → (¬ (¬ (hre tb tl (nxt tb tl pq)) = nI 40 ∧ opS (hre tb tl (nxt tb tl pq)) 4 0 = -1)) → gG (g_IU A D s) p l e ({ frames := 3 * k + 8, cells := 0, slots := 0, locals := 100 * k + 200 } : Room) s m args below meth c Q 6 0 0 55 [(3, .int (opS (hre tb tl (nxt tb tl pq)) 4 0)), (2, .int (hre tb tl (nxt tb tl pq))), (0, .ref n0), (1, .int (nI dv))] [] [(n0, .inr (5, [.int th, .ref np, .ref na, .int cp, .ref nc, .int en, .ref nf, .ref nq, .ref no, .ref nx, .ref ny, .ref nl, .ref nh, .ref nb, .ref nw, .int pl, .ref nt, .int (nI tl), .int (nI (nxt tb tl pq)), .int (nI 0), .long rs])), (nt, .inl (ty.1, 300, .inl (zN tb)))] := by
            intro n9
            induction n9 with
            | zero => intro  hn; exact absurd hn (Nat.not_lt_zero _)
            | succ n9 ih55 =>
              intro  hn55 h67
              refine g_iload_n C dX6_part_55 3 rfl rfl ?_
              refine g_bipush C dX6_part_56 (v := (nI 20)) (by decide) ?_
              refine g_icmp_neN C dX6_part_58 (tgt := 66) (by decide) (by omega) (by omega) (fun h58 => ?_) (fun h58 => ?_)
              · skip
                have hk : 0 < k := by omega
                have hlt : nxt tb tl pq < tl := hre_in (fun z => by by_cases q40 : (hre tb tl (nxt tb tl pq)) = nI 40; rw [z] at q40; exact absurd q40 (by decide); obtain ⟨o, o1, o2, o3, o4⟩ := opS_nI (fun y => h67 ⟨q40, y⟩); rw [z] at o4; exact nI_m1 (by have := sgn_lt o; omega) o4.symm)
                refine g_aload_n C dX6_part_66 2 rfl rfl ?_
                refine g_dup C dX6_part_67 rfl ?_
                refine g_get C 0 rfl rfl 18 (by decide) (fun _ h => (List.mem_cons_of_mem _ (List.mem_append_right _ h))) 1 rfl rfl rfl dX6_part_68 ?_
                refine g_iconst C dX6_part_71 (v := (nI 1)) (by decide) ?_
                refine g_iadd C dX6_part_72 (v := (nI ((nxt tb tl pq) + 1))) (nI_add _ _) ?_
                refine g_put C 0 rfl rfl 18 (by decide) (fun _ h => (List.mem_cons_of_mem _ (List.mem_append_right _ h))) 1 rfl rfl tyX6 tyX6_ok nmX6 rfl rfl rfl rfl (Nat.le_of_ble_eq_true rfl) (ws' := [(n0, .inr (5, [.int th, .ref np, .ref na, .int cp, .ref nc, .int en, .ref nf, .ref nq, .ref no, .ref nx, .ref ny, .ref nl, .ref nh, .ref nb, .ref nw, .int pl, .ref nt, .int (nI tl), .int (nI ((nxt tb tl pq) + 1)), .int (nI 0), .long rs])), (nt, .inl (ty.1, 300, .inl (zN tb)))]) rfl dX6_part_73 ?_
                refine g_iload_n C dX6_part_76 0 rfl rfl ?_
                refine g_iconst C dX6_part_77 (v := (-1)) (by decide) ?_
                refine g_icmp_eq C dX6_part_78 (tgt := 109) (by decide) (fun h78 => ?_) (fun h78 => ?_)
                · skip
                  have h40 : (hre tb tl (nxt tb tl pq)) = nI 40 := Classical.byContradiction (fun z => h67 ⟨z, t_eq.mpr h78⟩)
                  refine g_aload_n C dX6_part_109 2 rfl rfl ?_
                  refine g_iload_n C dX6_part_110 3 rfl rfl ?_
                  refine g_iconst C dX6_part_111 (v := (nI 1)) (by decide) ?_
                  refine g_iadd C dX6_part_112 (v := (nI (dv + 1))) (nI_add _ _) ?_
                  refine g_callUV C hX (hF1 hk ((nxt tb tl pq) + 1) (by omega)) rfl gX6_part_X6_formula 1 (by decide +kernel) rfl ⟨rfl, rfl⟩ ⟨by show _ ≤ _; simp only []; omega, by show _ ≤ _; simp only []; omega⟩ (rest := []) (q0 := 0) rfl rfl hA [0, 1] [] rfl rfl rfl (wr := []) rfl rfl rfl (Nat.le_of_ble_eq_true rfl) dX6_part_113 ⟨Nat.le_of_ble_eq_true rfl, Nat.le_of_ble_eq_true rfl⟩ rfl (g_kul (fun r113 w hr => ?_))
                  obtain ⟨at113, wr113, rfl, hP113⟩ := hr
                  refine g_ws (ws' := [(n0, .inr (5, [.int th, .ref np, .ref na, .int cp, .ref nc, .int en, .ref nf, .ref nq, .ref no, .ref nx, .ref ny, .ref nl, .ref nh, .ref nb, .ref nw, .int pl, .ref nt, .int (nI tl), .int at113, .int wr113, .long rs])), (nt, .inl (ty.1, 300, .inl (zN tb)))]) [0, 1] rfl rfl rfl ?_
                  refine g_lstore C dX6_part_116 (by decide) (lv' := [(4, .long r113), (3, .int (opS (hre tb tl (nxt tb tl pq)) 4 0)), (2, .int (hre tb tl (nxt tb tl pq))), (0, .ref n0), (1, .int (nI dv))]) rfl ?_
                  refine g_aload_n C dX6_part_118 3 rfl rfl ?_
                  refine g_get C 0 rfl rfl 19 (by decide) (fun _ h => (List.mem_cons_of_mem _ (List.mem_append_right _ h))) 3 rfl rfl rfl dX6_part_119 ?_
                  refine g_if_eq C dX6_part_122 (tgt := 127) (by decide) (fun h122 => ?_) (fun h122 => ?_)
                  · skip
                    obtain ⟨f113, q3, hA113, hq113, hr113, hpl113, hw113⟩ := psM_ok hP113 h122
                    subst hr113
                    subst hpl113
                    subst hw113
                    refine g_aload_n C dX6_part_127 3 rfl rfl ?_
                    refine g_callUV C ⟨g_X0_ok, trivial⟩ (t_X6_next l D ty n0 np na nc nf nq no nx ny nl nh nb nw nt th cp pl en rs tl tb hb htl q3 (by omega) (nI 0)) rfl gX6_part_X6_next 0 (by decide +kernel) rfl ⟨rfl, rfl⟩ ⟨Nat.le_of_ble_eq_true rfl, Nat.le_of_ble_eq_true rfl⟩ (rest := []) (q0 := 0) rfl rfl hA [0, 1] [] rfl rfl rfl (wr := []) rfl rfl rfl (Nat.le_of_ble_eq_true rfl) dX6_part_128 ⟨Nat.le_of_ble_eq_true rfl, Nat.le_of_ble_eq_true rfl⟩ rfl (g_kui (fun r w hr => ?_))
                    obtain ⟨rfl, rfl⟩ := hr
                    have hn128 := nxt_le (tb := tb) (tl := tl) (p := q3) (by omega)
                    refine g_ws (ws' := [(n0, .inr (5, [.int th, .ref np, .ref na, .int cp, .ref nc, .int en, .ref nf, .ref nq, .ref no, .ref nx, .ref ny, .ref nl, .ref nh, .ref nb, .ref nw, .int pl, .ref nt, .int (nI tl), .int (nI (nxt tb tl q3)), .int (nI 0), .long rs])), (nt, .inl (ty.1, 300, .inl (zN tb)))]) [0, 1] rfl rfl rfl ?_
                    refine g_bipush C dX6_part_131 (v := (nI 41)) (by decide) ?_
                    refine g_icmp_eq C dX6_part_133 (tgt := 141) (by decide) (fun h133 => ?_) (fun h133 => ?_)
                    · skip
                      have h41 : hre tb tl (nxt tb tl q3) = nI 41 := t_eq.mpr h133
                      have hlt2 := hre_nI (by decide) h41
                      refine g_aload_n C dX6_part_141 3 rfl rfl ?_
                      refine g_dup C dX6_part_142 rfl ?_
                      refine g_get C 0 rfl rfl 18 (by decide) (fun _ h => (List.mem_cons_of_mem _ (List.mem_append_right _ h))) 1 rfl rfl rfl dX6_part_143 ?_
                      refine g_iconst C dX6_part_146 (v := (nI 1)) (by decide) ?_
                      refine g_iadd C dX6_part_147 (v := (nI ((nxt tb tl q3) + 1))) (nI_add _ _) ?_
                      refine g_put C 0 rfl rfl 18 (by decide) (fun _ h => (List.mem_cons_of_mem _ (List.mem_append_right _ h))) 1 rfl rfl tyX6 tyX6_ok nmX6 rfl rfl rfl rfl (Nat.le_of_ble_eq_true rfl) (ws' := [(n0, .inr (5, [.int th, .ref np, .ref na, .int cp, .ref nc, .int en, .ref nf, .ref nq, .ref no, .ref nx, .ref ny, .ref nl, .ref nh, .ref nb, .ref nw, .int pl, .ref nt, .int (nI tl), .int (nI ((nxt tb tl q3) + 1)), .int (nI 0), .long rs])), (nt, .inl (ty.1, 300, .inl (zN tb)))]) rfl dX6_part_148 ?_
                      refine g_lload C dX6_part_151 0 rfl ?_
                      refine hR _ _ _ _ _ _ dX6_part_153 ?_ (by omega) (by omega)
                      exact ⟨_, _, rfl, Or.inl ⟨_, _, by rw [pa_b h120 h29 h40 hk]; exact en_ok hA113 h41, by omega, rfl, rfl, rfl⟩⟩
                    · skip
                      have h41 : ¬ hre tb tl (nxt tb tl q3) = nI 41 := fun z => h133 (t_eq.mp z)
                      refine g_aload_n C dX6_part_136 3 rfl rfl ?_
                      refine g_callUV C ⟨g_X0_ok, trivial⟩ (t_X6_wrong l D ty n0 np na nc nf nq no nx ny nl nh nb nw nt th cp pl en rs tl tb hb htl (nI (nxt tb tl q3)) (nI 0)) rfl gX6_part_X6_wrong 0 (by decide +kernel) rfl ⟨rfl, rfl⟩ ⟨Nat.le_of_ble_eq_true rfl, Nat.le_of_ble_eq_true rfl⟩ (rest := []) (q0 := 0) rfl rfl hA [0, 1] [] rfl rfl rfl (wr := []) rfl rfl rfl (Nat.le_of_ble_eq_true rfl) dX6_part_137 ⟨Nat.le_of_ble_eq_true rfl, Nat.le_of_ble_eq_true rfl⟩ rfl (g_kul (fun r w hr => ?_))
                      obtain ⟨rfl, rfl⟩ := hr
                      refine g_ws (ws' := [(n0, .inr (5, [.int th, .ref np, .ref na, .int cp, .ref nc, .int en, .ref nf, .ref nq, .ref no, .ref nx, .ref ny, .ref nl, .ref nh, .ref nb, .ref nw, .int pl, .ref nt, .int (nI tl), .int (nI (nxt tb tl q3)), .int (nI 1), .long rs])), (nt, .inl (ty.1, 300, .inl (zN tb)))]) [0, 1] rfl rfl rfl ?_
                      refine hR _ _ _ _ _ _ dX6_part_140 ?_ (by omega) (by omega)
                      exact ⟨_, _, rfl, Or.inr ⟨_, by rw [pa_b h120 h29 h40 hk]; exact en_no hA113 h41, by omega, rfl, rfl⟩⟩
                  · skip
                    obtain ⟨e113, hA113, hq113, hpl113, hw113⟩ := psM_er hP113 h122
                    refine g_lconst C dX6_part_125 (v := 0) (by decide) ?_
                    refine hR _ _ _ _ _ _ dX6_part_126 ?_ (by omega) (by omega)
                    exact ⟨_, _, rfl, Or.inr ⟨_, by rw [pa_b h120 h29 h40 hk]; exact en_e hA113, hq113, hpl113, hw113⟩⟩
                · skip
                  have ho : ¬ opS (hre tb tl (nxt tb tl pq)) 4 0 = -1 := fun z => h78 (t_eq.mp z)
                  have h40 : ¬ (hre tb tl (nxt tb tl pq)) = nI 40 := fun z => ho (by rw [z]; exact op_40)
                  obtain ⟨o, ho1, ho2, ho3, ho4⟩ := opS_nI ho
                  rw [ho3]
                  refine g_aload_n C dX6_part_81 2 rfl rfl ?_
                  refine g_iload_n C dX6_part_82 3 rfl rfl ?_
                  refine g_iconst C dX6_part_83 (v := (nI 1)) (by decide) ?_
                  refine g_iadd C dX6_part_84 (v := (nI (dv + 1))) (nI_add _ _) ?_
                  refine g_callUV C hX (hQ1 hk ((nxt tb tl pq) + 1) (by omega)) rfl gX6_part_X6_part 1 (by decide +kernel) rfl ⟨rfl, rfl⟩ ⟨by show _ ≤ _; simp only []; omega, by show _ ≤ _; simp only []; omega⟩ (rest := []) (q0 := 0) rfl rfl hA [0, 1] [] rfl rfl rfl (wr := []) rfl rfl rfl (Nat.le_of_ble_eq_true rfl) dX6_part_85 ⟨Nat.le_of_ble_eq_true rfl, Nat.le_of_ble_eq_true rfl⟩ rfl (g_kul (fun r85 w hr => ?_))
                  obtain ⟨at85, wr85, rfl, hP85⟩ := hr
                  refine g_ws (ws' := [(n0, .inr (5, [.int th, .ref np, .ref na, .int cp, .ref nc, .int en, .ref nf, .ref nq, .ref no, .ref nx, .ref ny, .ref nl, .ref nh, .ref nb, .ref nw, .int pl, .ref nt, .int (nI tl), .int at85, .int wr85, .long rs])), (nt, .inl (ty.1, 300, .inl (zN tb)))]) [0, 1] rfl rfl rfl ?_
                  refine g_lstore C dX6_part_88 (by decide) (lv' := [(4, .long r85), (3, .int (nI o)), (2, .int (hre tb tl (nxt tb tl pq))), (0, .ref n0), (1, .int (nI dv))]) rfl ?_
                  refine g_aload_n C dX6_part_90 3 rfl rfl ?_
                  refine g_get C 0 rfl rfl 19 (by decide) (fun _ h => (List.mem_cons_of_mem _ (List.mem_append_right _ h))) 3 rfl rfl rfl dX6_part_91 ?_
                  refine g_if_eq C dX6_part_94 (tgt := 101) (by decide) (fun h94 => ?_) (fun h94 => ?_)
                  · skip
                    obtain ⟨f85, q3, hA85, hq85, hr85, hpl85, hw85⟩ := psM_ok hP85 h94
                    subst hr85
                    subst hpl85
                    subst hw85
                    refine g_iload_n C dX6_part_101 1 rfl rfl ?_
                    refine g_lload C dX6_part_102 0 rfl ?_
                    refine g_lconst C dX6_part_104 (v := 0) (by decide) ?_
                    refine g_callPS C ⟨g_X0_ok, trivial⟩ (t_X6_made l D ty o (by omega) r85 0) rfl gX6_part_X6_made 3 (by decide +kernel) rfl ⟨rfl, rfl⟩ ⟨Nat.le_of_ble_eq_true rfl, Nat.le_of_ble_eq_true rfl⟩ (rest := []) [] rfl (Nat.le_of_ble_eq_true rfl) dX6_part_105 ⟨Nat.le_of_ble_eq_true rfl, Nat.le_of_ble_eq_true rfl⟩ rfl (g_kl (fun r hr => ?_))
                    subst hr
                    rw [md_ma (by omega)]
                    refine hR _ _ _ _ _ _ dX6_part_108 ?_ (by omega) (by omega)
                    first
                    | exact ⟨_, _, rfl, Or.inl ⟨_, _, by rw [pa_u h120 h29 h40 ho3 (by omega) hk, hA85]; rfl, hq85, rfl, rfl, rfl⟩⟩
                    | exact ⟨_, _, rfl, Or.inr ⟨_, by rw [pa_u h120 h29 h40 ho3 (by omega) hk, hA85]; rfl, hq85, hpl85, hw85⟩⟩
                  · skip
                    obtain ⟨e85, hA85, hq85, hpl85, hw85⟩ := psM_er hP85 h94
                    refine g_lconst C dX6_part_97 (v := 0) (by decide) ?_
                    refine g_goto C dX6_part_98 (tgt := 108) (by decide) ?_
                    refine hR _ _ _ _ _ _ dX6_part_108 ?_ (by omega) (by omega)
                    first
                    | exact ⟨_, _, rfl, Or.inl ⟨_, _, by rw [pa_u h120 h29 h40 ho3 (by omega) hk, hA85]; rfl, hq85, rfl, rfl, rfl⟩⟩
                    | exact ⟨_, _, rfl, Or.inr ⟨_, by rw [pa_u h120 h29 h40 ho3 (by omega) hk, hA85]; rfl, hq85, hpl85, hw85⟩⟩
              · skip
                have L61 : ∀ (n9 : Nat) , 0 < n9 → ((¬ (hre tb tl (nxt tb tl pq)) = nI 40 ∧ opS (hre tb tl (nxt tb tl pq)) 4 0 = -1) ∨ k = 0) → gG (g_IU A D s) p l e ({ frames := 3 * k + 8, cells := 0, slots := 0, locals := 100 * k + 200 } : Room) s m args below meth c Q 6 0 0 61 [(0, .ref n0), (1, .int (nI dv))] [] [(n0, .inr (5, [.int th, .ref np, .ref na, .int cp, .ref nc, .int en, .ref nf, .ref nq, .ref no, .ref nx, .ref ny, .ref nl, .ref nh, .ref nb, .ref nw, .int pl, .ref nt, .int (nI tl), .int (nI (nxt tb tl pq)), .int (nI 0), .long rs])), (nt, .inl (ty.1, 300, .inl (zN tb)))] := by
                  intro n9
                  induction n9 with
                  | zero => intro  hn; exact absurd hn (Nat.not_lt_zero _)
                  | succ n9 ih61 =>
                    intro  hn61 h73
                    refine g_aload_n C dX6_part_61 0 rfl rfl ?_
                    refine g_callUV C ⟨g_X0_ok, trivial⟩ (t_X6_wrong l D ty n0 np na nc nf nq no nx ny nl nh nb nw nt th cp pl en rs tl tb hb htl (nI (nxt tb tl pq)) (nI 0)) rfl gX6_part_X6_wrong 0 (by decide +kernel) rfl ⟨rfl, rfl⟩ ⟨Nat.le_of_ble_eq_true rfl, Nat.le_of_ble_eq_true rfl⟩ (rest := []) (q0 := 0) rfl rfl hA [0, 1] [] rfl rfl rfl (wr := []) rfl rfl rfl (Nat.le_of_ble_eq_true rfl) dX6_part_62 ⟨Nat.le_of_ble_eq_true rfl, Nat.le_of_ble_eq_true rfl⟩ rfl (g_kul (fun r w hr => ?_))
                    obtain ⟨rfl, rfl⟩ := hr
                    refine g_ws (ws' := [(n0, .inr (5, [.int th, .ref np, .ref na, .int cp, .ref nc, .int en, .ref nf, .ref nq, .ref no, .ref nx, .ref ny, .ref nl, .ref nh, .ref nb, .ref nw, .int pl, .ref nt, .int (nI tl), .int (nI (nxt tb tl pq)), .int (nI 1), .long rs])), (nt, .inl (ty.1, 300, .inl (zN tb)))]) [0, 1] rfl rfl rfl ?_
                    refine hR _ _ _ _ _ _ dX6_part_65 ?_ (by omega) (by omega)
                    exact ⟨_, _, rfl, Or.inr ⟨_, pa_e h120 h29 h73, by omega, rfl, rfl⟩⟩
                refine g_lv [2, 3] rfl ?_
                exact L61 _  (Nat.lt_succ_self _) (by first | exact Or.inr (by omega) | exact Or.inl ⟨fun z => h52 (t_eq.mp z), t_eq.mpr h46⟩)
          exact L55 _  (Nat.lt_succ_self _) (by first | exact fun z => h46 (t_eq.mp z.2) | exact fun z => z.1 (t_eq.mpr h52))
    · skip
      have h29b := in_1 h29
      have c48 := nI_toInt (n := 48) (by decide)
      have c57 := nI_toInt (n := 57) (by decide)
      have hlt : nxt tb tl pq < tl := hre_in (fun z => by rw [z] at h29b; have zz : (-1 : Int32).toInt = -1 := (by decide); omega)
      have hbq := hb (nxt tb tl pq)
      rw [hre_t hlt, nI_toInt (show tb (nxt tb tl pq) < 2 ^ 31 by omega)] at h29b
      refine g_aload_n C dX6_part_32 1 rfl rfl ?_
      refine g_callUV C ⟨g_X0_ok, trivial⟩ (t_X6_number l D ty n0 np na nc nf nq no nx ny nl nh nb nw nt th cp pl en rs tl tb hb htl (nxt tb tl pq) (by omega) (by omega) (by omega)) rfl gX6_part_X6_number 0 (by decide +kernel) rfl ⟨rfl, rfl⟩ ⟨Nat.le_of_ble_eq_true rfl, Nat.le_of_ble_eq_true rfl⟩ (rest := []) (q0 := 0) rfl rfl hA [0, 1] [] rfl rfl rfl (wr := []) rfl rfl rfl (Nat.le_of_ble_eq_true rfl) dX6_part_33 ⟨Nat.le_of_ble_eq_true rfl, Nat.le_of_ble_eq_true rfl⟩ rfl (g_kul (fun r33 w hr => ?_))
      obtain ⟨at33, wr33, rfl, hP33⟩ := hr
      refine g_ws (ws' := [(n0, .inr (5, [.int th, .ref np, .ref na, .int cp, .ref nc, .int en, .ref nf, .ref nq, .ref no, .ref nx, .ref ny, .ref nl, .ref nh, .ref nb, .ref nw, .int pl, .ref nt, .int (nI tl), .int at33, .int wr33, .long rs])), (nt, .inl (ty.1, 300, .inl (zN tb)))]) [0, 1] rfl rfl rfl ?_
      refine hR _ _ _ _ _ _ dX6_part_36 ?_ (by omega) (by omega)
      exact ⟨_, _, rfl, by rw [pa_n h120 h29]; exact hP33⟩
  · skip
    have h120 := t_eq.mpr h8
    have hlt := hre_nI (by decide) h120
    refine g_aload_n C dX6_part_11 1 rfl rfl ?_
    refine g_dup C dX6_part_12 rfl ?_
    refine g_get C 0 rfl rfl 18 (by decide) (fun _ h => (List.mem_cons_of_mem _ (List.mem_append_right _ h))) 1 rfl rfl rfl dX6_part_13 ?_
    refine g_iconst C dX6_part_16 (v := (nI 1)) (by decide) ?_
    refine g_iadd C dX6_part_17 (v := (nI ((nxt tb tl pq) + 1))) (nI_add _ _) ?_
    refine g_put C 0 rfl rfl 18 (by decide) (fun _ h => (List.mem_cons_of_mem _ (List.mem_append_right _ h))) 1 rfl rfl tyX6 tyX6_ok nmX6 rfl rfl rfl rfl (Nat.le_of_ble_eq_true rfl) (ws' := [(n0, .inr (5, [.int th, .ref np, .ref na, .int cp, .ref nc, .int en, .ref nf, .ref nq, .ref no, .ref nx, .ref ny, .ref nl, .ref nh, .ref nb, .ref nw, .int pl, .ref nt, .int (nI tl), .int (nI ((nxt tb tl pq) + 1)), .int (nI 0), .long rs])), (nt, .inl (ty.1, 300, .inl (zN tb)))]) rfl dX6_part_18 ?_
    refine g_ldc2 C (v := (-81985529216486896)) 2 rfl dX6_part_21 ?_
    refine hR _ _ _ _ _ _ dX6_part_24 ?_ (by omega) (by omega)
    exact ⟨_, _, rfl, Or.inl ⟨_, _, pa_x h120, by omega, rfl, rfl, rfl⟩⟩

theorem t_X6_plev (l : Launch) (D : va_G) (ty : g_T3) (n0 np na nc nf nq no nx ny nl nh nb nw nt : Nat) (th cp pl en : Int32) (rs : Int64) (tl : Nat) (tb : Nat → Nat) (hb : ∀ i, tb i < 256) (htl : tl ≤ 300) : ∀ k dv : Nat, dv + k = 20 → ∀ pq : Nat, pq ≤ tl → g_U l yX6_part wsX6_part ({ frames := 3 * k + 8, cells := 0, slots := 0, locals := 100 * k + 200 } : Room) D ty g_XN [.ref n0, .int (nI dv)] [(n0, .inr (5, [.int th, .ref np, .ref na, .int cp, .ref nc, .int en, .ref nf, .ref nq, .ref no, .ref nx, .ref ny, .ref nl, .ref nh, .ref nb, .ref nw, .int pl, .ref nt, .int (nI tl), .int (nI pq), .int (nI 0), .long rs])), (nt, .inl (ty.1, 300, .inl (zN tb)))] 0 0 (g_ul (fun r w => ∃ at2 wr2, w = [(n0, .inr (5, [.int th, .ref np, .ref na, .int cp, .ref nc, .int en, .ref nf, .ref nq, .ref no, .ref nx, .ref ny, .ref nl, .ref nh, .ref nb, .ref nw, .int pl, .ref nt, .int (nI tl), .int at2, .int wr2, .long rs])), (nt, .inl (ty.1, 300, .inl (zN tb)))] ∧ psM (paK tb tl k pq) tl r at2 wr2)) := by
  intro k
  induction k with
  | zero =>
    intro dv hkd pq hp
    exact t_X6_part l D ty n0 np na nc nf nq no nx ny nl nh nb nw nt th cp pl en rs tl tb hb htl 0 dv hkd (fun h => absurd h (Nat.lt_irrefl 0)) (fun h => absurd h (Nat.lt_irrefl 0)) pq hp
  | succ k ih =>
    intro dv hkd pq hp
    exact t_X6_part l D ty n0 np na nc nf nq no nx ny nl nh nb nw nt th cp pl en rs tl tb hb htl (k + 1) dv hkd (fun _ => t_X6_formula l D ty n0 np na nc nf nq no nx ny nl nh nb nw nt th cp pl en rs tl tb hb htl k (dv + 1) (ih (dv + 1) (by omega))) (fun _ => ih (dv + 1) (by omega)) pq hp
theorem t_X6_form (l : Launch) (D : va_G) (ty : g_T3) (n0 np na nc nf nq no nx ny nl nh nb nw nt : Nat) (th cp pl en : Int32) (rs : Int64) (tl : Nat) (tb : Nat → Nat) (hb : ∀ i, tb i < 256) (htl : tl ≤ 300) (pq : Nat) (hp : pq ≤ tl) : g_U l yX6_formula wsX6_formula ({ frames := 3 * 20 + 9, cells := 0, slots := 0, locals := 100 * 20 + 230 } : Room) D ty g_XN [.ref n0, .int (nI 0)] [(n0, .inr (5, [.int th, .ref np, .ref na, .int cp, .ref nc, .int en, .ref nf, .ref nq, .ref no, .ref nx, .ref ny, .ref nl, .ref nh, .ref nb, .ref nw, .int pl, .ref nt, .int (nI tl), .int (nI pq), .int (nI 0), .long rs])), (nt, .inl (ty.1, 300, .inl (zN tb)))] 0 0 (g_ul (fun r w => ∃ at2 wr2, w = [(n0, .inr (5, [.int th, .ref np, .ref na, .int cp, .ref nc, .int en, .ref nf, .ref nq, .ref no, .ref nx, .ref ny, .ref nl, .ref nh, .ref nb, .ref nw, .int pl, .ref nt, .int (nI tl), .int at2, .int wr2, .long rs])), (nt, .inl (ty.1, 300, .inl (zN tb)))] ∧ psM (foR tb tl (paK tb tl 20) pq) tl r at2 wr2)) := t_X6_formula l D ty n0 np na nc nf nq no nx ny nl nh nb nw nt th cp pl en rs tl tb hb htl 20 0 (t_X6_plev l D ty n0 np na nc nf nq no nx ny nl nh nb nw nt th cp pl en rs tl tb hb htl 20 0 rfl) pq hp

abbrev rm_t_X6_read : Room := ({ frames := 70, cells := 0, slots := 0, locals := 2256 } : Room)
set_option maxHeartbeats 4000000 in
set_option maxRecDepth 100000 in
theorem t_X6_read (l : Launch) (D : va_G) (ty : g_T3) (n0 np na nc nf nq no nx ny nl nh nb nw nt : Nat) (th cp pl en : Int32) (rs : Int64) (tl : Nat) (tb : Nat → Nat) (hb : ∀ i, tb i < 256) (htl : tl ≤ 300) (av wr : Int32) : g_U l yX6_read wsX6_read rm_t_X6_read D ty g_XN [.ref n0] [(n0, .inr (5, [.int th, .ref np, .ref na, .int cp, .ref nc, .int en, .ref nf, .ref nq, .ref no, .ref nx, .ref ny, .ref nl, .ref nh, .ref nb, .ref nw, .int pl, .ref nt, .int (nI tl), .int av, .int wr, .long rs])), (nt, .inl (ty.1, 300, .inl (zN tb)))] 0 0 (g_ui (fun r w => ∃ at2 wr2, (∃ f, rdF tb tl = .inl f ∧ r = -1 ∧ w = [(n0, .inr (5, [.int (nI 0), .ref np, .ref na, .int cp, .ref nc, .int en, .ref nf, .ref nq, .ref no, .ref nx, .ref ny, .ref nl, .ref nh, .ref nb, .ref nw, .int pl, .ref nt, .int (nI 0), .int at2, .int wr2, .long f])), (nt, .inl (ty.1, 300, .inl (zN tb)))]) ∨ (∃ e, rdF tb tl = .inr e ∧ r = nI e ∧ w = [(n0, .inr (5, [.int (nI 0), .ref np, .ref na, .int cp, .ref nc, .int en, .ref nf, .ref nq, .ref no, .ref nx, .ref ny, .ref nl, .ref nh, .ref nb, .ref nw, .int pl, .ref nt, .int (nI 0), .int at2, .int wr2, .long rs])), (nt, .inl (ty.1, 300, .inl (zN tb)))]))) := by
  refine g_ofUi (cc := cX6_read) (nL := 3) (own := RX6) (by decide) rfl rfl g_XN_ok (Nat.le_of_ble_eq_true rfl) ?_
  intro p e s m args below meth c Q A C hA hX hin hR
  refine g_lv (lv' := [(0, .ref n0)]) [0] rfl ?_
  refine g_aload_n C dX6_read_0 0 rfl rfl ?_
  refine g_iconst C dX6_read_1 (v := (nI 0)) (by decide) ?_
  refine g_put C 0 rfl rfl 0 (by decide) (fun _ h => (List.mem_cons_of_mem _ (List.mem_append_right _ h))) 1 rfl rfl tyX6 tyX6_ok nmX6 rfl rfl rfl rfl (Nat.le_of_ble_eq_true rfl) (ws' := [(n0, .inr (5, [.int (nI 0), .ref np, .ref na, .int cp, .ref nc, .int en, .ref nf, .ref nq, .ref no, .ref nx, .ref ny, .ref nl, .ref nh, .ref nb, .ref nw, .int pl, .ref nt, .int (nI tl), .int av, .int wr, .long rs])), (nt, .inl (ty.1, 300, .inl (zN tb)))]) rfl dX6_read_2 ?_
  refine g_aload_n C dX6_read_5 0 rfl rfl ?_
  refine g_iconst C dX6_read_6 (v := (nI 0)) (by decide) ?_
  refine g_put C 0 rfl rfl 18 (by decide) (fun _ h => (List.mem_cons_of_mem _ (List.mem_append_right _ h))) 2 rfl rfl tyX6 tyX6_ok nmX6 rfl rfl rfl rfl (Nat.le_of_ble_eq_true rfl) (ws' := [(n0, .inr (5, [.int (nI 0), .ref np, .ref na, .int cp, .ref nc, .int en, .ref nf, .ref nq, .ref no, .ref nx, .ref ny, .ref nl, .ref nh, .ref nb, .ref nw, .int pl, .ref nt, .int (nI tl), .int (nI 0), .int wr, .long rs])), (nt, .inl (ty.1, 300, .inl (zN tb)))]) rfl dX6_read_7 ?_
  refine g_aload_n C dX6_read_10 0 rfl rfl ?_
  refine g_iconst C dX6_read_11 (v := (nI 0)) (by decide) ?_
  refine g_put C 0 rfl rfl 19 (by decide) (fun _ h => (List.mem_cons_of_mem _ (List.mem_append_right _ h))) 3 rfl rfl tyX6 tyX6_ok nmX6 rfl rfl rfl rfl (Nat.le_of_ble_eq_true rfl) (ws' := [(n0, .inr (5, [.int (nI 0), .ref np, .ref na, .int cp, .ref nc, .int en, .ref nf, .ref nq, .ref no, .ref nx, .ref ny, .ref nl, .ref nh, .ref nb, .ref nw, .int pl, .ref nt, .int (nI tl), .int (nI 0), .int (nI 0), .long rs])), (nt, .inl (ty.1, 300, .inl (zN tb)))]) rfl dX6_read_12 ?_
  refine g_aload_n C dX6_read_15 0 rfl rfl ?_
  refine g_iconst C dX6_read_16 (v := (nI 0)) (by decide) ?_
  refine g_callUV C hX (t_X6_form l D ty n0 np na nc nf nq no nx ny nl nh nb nw nt (nI 0) cp pl en rs tl tb hb htl 0 (by omega)) rfl gX6_read_X6_formula 1 (by decide +kernel) rfl ⟨rfl, rfl⟩ ⟨Nat.le_of_ble_eq_true rfl, Nat.le_of_ble_eq_true rfl⟩ (rest := []) (q0 := 0) rfl rfl hA [0, 1] [] rfl rfl rfl (wr := []) rfl rfl rfl (Nat.le_of_ble_eq_true rfl) dX6_read_17 ⟨Nat.le_of_ble_eq_true rfl, Nat.le_of_ble_eq_true rfl⟩ rfl (g_kul (fun r17 w hr => ?_))
  obtain ⟨at17, wr17, rfl, hP17⟩ := hr
  refine g_ws (ws' := [(n0, .inr (5, [.int (nI 0), .ref np, .ref na, .int cp, .ref nc, .int en, .ref nf, .ref nq, .ref no, .ref nx, .ref ny, .ref nl, .ref nh, .ref nb, .ref nw, .int pl, .ref nt, .int (nI tl), .int at17, .int wr17, .long rs])), (nt, .inl (ty.1, 300, .inl (zN tb)))]) [0, 1] rfl rfl rfl ?_
  refine g_lstore_n C dX6_read_20 rfl (by decide) (lv' := [(1, .long r17), (0, .ref n0)]) rfl ?_
  refine g_aload_n C dX6_read_21 1 rfl rfl ?_
  refine g_get C 0 rfl rfl 19 (by decide) (fun _ h => (List.mem_cons_of_mem _ (List.mem_append_right _ h))) 3 rfl rfl rfl dX6_read_22 ?_
  refine g_if_ne C dX6_read_25 (tgt := 41) (by decide) (fun h25 => ?_) (fun h25 => ?_)
  · skip
    obtain ⟨e17, hA17, hq17, hpl17, hw17⟩ := psM_er hP17 h25
    have L41 : ∀ (n9 : Nat) (r2 : Int64) (at2 wr2 : Int32), 0 < n9 → ((∃ f, rdF tb tl = .inl f ∧ r2 = f ∧ wr2 = nI 0) ∨ (∃ e, rdF tb tl = .inr e ∧ at2 = nI e ∧ wr2 = nI 1)) → gG (g_IU A D s) p l e rm_t_X6_read s m args below meth c Q 3 0 0 41 [(1, .long r2), (0, .ref n0)] [] [(n0, .inr (5, [.int (nI 0), .ref np, .ref na, .int cp, .ref nc, .int en, .ref nf, .ref nq, .ref no, .ref nx, .ref ny, .ref nl, .ref nh, .ref nb, .ref nw, .int pl, .ref nt, .int (nI tl), .int at2, .int wr2, .long rs])), (nt, .inl (ty.1, 300, .inl (zN tb)))] := by
      intro n9
      induction n9 with
      | zero => intro r2 at2 wr2 hn; exact absurd hn (Nat.not_lt_zero _)
      | succ n9 ih41 =>
        intro r2 at2 wr2 hn41 h40
        refine g_aload_n C dX6_read_41 1 rfl rfl ?_
        refine g_get C 0 rfl rfl 19 (by decide) (fun _ h => (List.mem_cons_of_mem _ (List.mem_append_right _ h))) 3 rfl rfl rfl dX6_read_42 ?_
        refine g_if_ne C dX6_read_45 (tgt := 53) (by decide) (fun h45 => ?_) (fun h45 => ?_)
        · skip
          refine g_aload_n C dX6_read_53 1 rfl rfl ?_
          refine g_iconst C dX6_read_54 (v := (nI 0)) (by decide) ?_
          refine g_put C 0 rfl rfl 17 (by decide) (fun _ h => (List.mem_cons_of_mem _ (List.mem_append_right _ h))) 5 rfl rfl tyX6 tyX6_ok nmX6 rfl rfl rfl rfl (Nat.le_of_ble_eq_true rfl) (ws' := [(n0, .inr (5, [.int (nI 0), .ref np, .ref na, .int cp, .ref nc, .int en, .ref nf, .ref nq, .ref no, .ref nx, .ref ny, .ref nl, .ref nh, .ref nb, .ref nw, .int pl, .ref nt, .int (nI 0), .int at2, .int wr2, .long rs])), (nt, .inl (ty.1, 300, .inl (zN tb)))]) rfl dX6_read_55 ?_
          refine g_aload_n C dX6_read_58 1 rfl rfl ?_
          refine g_get C 0 rfl rfl 19 (by decide) (fun _ h => (List.mem_cons_of_mem _ (List.mem_append_right _ h))) 3 rfl rfl rfl dX6_read_59 ?_
          refine g_if_eq C dX6_read_62 (tgt := 72) (by decide) (fun h62 => ?_) (fun h62 => ?_)
          · skip
            refine g_iconst C dX6_read_72 (v := (-1)) (by decide) ?_
            refine hR _ _ _ _ _ _ dX6_read_73 ?_ (by omega) (by omega)
            rcases h40 with ⟨f, z1, z2, z3⟩ | ⟨e, z1, z2, z3⟩
            · first
              | exact absurd (by rw [z3]; decide) h45
              | exact absurd (by rw [z3]; decide) h62
              | exact ⟨_, _, Or.inl ⟨f, z1, rfl, by rw [z2]⟩⟩
            · first
              | exact ⟨_, _, Or.inr ⟨e, z1, z2, rfl⟩⟩
              | (rw [z3] at h62; exact absurd h62 (by decide))
              | (rw [z3] at h45; exact absurd h45 (by decide))
          · skip
            refine g_aload_n C dX6_read_65 1 rfl rfl ?_
            refine g_get C 0 rfl rfl 18 (by decide) (fun _ h => (List.mem_cons_of_mem _ (List.mem_append_right _ h))) 2 rfl rfl rfl dX6_read_66 ?_
            refine g_goto C dX6_read_69 (tgt := 73) (by decide) ?_
            refine hR _ _ _ _ _ _ dX6_read_73 ?_ (by omega) (by omega)
            rcases h40 with ⟨f, z1, z2, z3⟩ | ⟨e, z1, z2, z3⟩
            · first
              | exact absurd (by rw [z3]; decide) h45
              | exact absurd (by rw [z3]; decide) h62
              | exact ⟨_, _, Or.inl ⟨f, z1, rfl, by rw [z2]⟩⟩
            · first
              | exact ⟨_, _, Or.inr ⟨e, z1, z2, rfl⟩⟩
              | (rw [z3] at h62; exact absurd h62 (by decide))
              | (rw [z3] at h45; exact absurd h45 (by decide))
        · skip
          refine g_aload_n C dX6_read_48 1 rfl rfl ?_
          refine g_lload_n C dX6_read_49 0 rfl rfl ?_
          refine g_put C 0 rfl rfl 20 (by decide) (fun _ h => (List.mem_cons_of_mem _ (List.mem_append_right _ h))) 4 rfl rfl tyX6 tyX6_ok nmX6 rfl rfl rfl rfl (Nat.le_of_ble_eq_true rfl) (ws' := [(n0, .inr (5, [.int (nI 0), .ref np, .ref na, .int cp, .ref nc, .int en, .ref nf, .ref nq, .ref no, .ref nx, .ref ny, .ref nl, .ref nh, .ref nb, .ref nw, .int pl, .ref nt, .int (nI tl), .int at2, .int wr2, .long r2])), (nt, .inl (ty.1, 300, .inl (zN tb)))]) rfl dX6_read_50 ?_
          refine g_aload_n C dX6_read_53 1 rfl rfl ?_
          refine g_iconst C dX6_read_54 (v := (nI 0)) (by decide) ?_
          refine g_put C 0 rfl rfl 17 (by decide) (fun _ h => (List.mem_cons_of_mem _ (List.mem_append_right _ h))) 5 rfl rfl tyX6 tyX6_ok nmX6 rfl rfl rfl rfl (Nat.le_of_ble_eq_true rfl) (ws' := [(n0, .inr (5, [.int (nI 0), .ref np, .ref na, .int cp, .ref nc, .int en, .ref nf, .ref nq, .ref no, .ref nx, .ref ny, .ref nl, .ref nh, .ref nb, .ref nw, .int pl, .ref nt, .int (nI 0), .int at2, .int wr2, .long r2])), (nt, .inl (ty.1, 300, .inl (zN tb)))]) rfl dX6_read_55 ?_
          refine g_aload_n C dX6_read_58 1 rfl rfl ?_
          refine g_get C 0 rfl rfl 19 (by decide) (fun _ h => (List.mem_cons_of_mem _ (List.mem_append_right _ h))) 3 rfl rfl rfl dX6_read_59 ?_
          refine g_if_eq C dX6_read_62 (tgt := 72) (by decide) (fun h62 => ?_) (fun h62 => ?_)
          · skip
            refine g_iconst C dX6_read_72 (v := (-1)) (by decide) ?_
            refine hR _ _ _ _ _ _ dX6_read_73 ?_ (by omega) (by omega)
            rcases h40 with ⟨f, z1, z2, z3⟩ | ⟨e, z1, z2, z3⟩
            · first
              | exact absurd (by rw [z3]; decide) h45
              | exact absurd (by rw [z3]; decide) h62
              | exact ⟨_, _, Or.inl ⟨f, z1, rfl, by rw [z2]⟩⟩
            · first
              | exact ⟨_, _, Or.inr ⟨e, z1, z2, rfl⟩⟩
              | (rw [z3] at h62; exact absurd h62 (by decide))
              | (rw [z3] at h45; exact absurd h45 (by decide))
          · skip
            refine g_aload_n C dX6_read_65 1 rfl rfl ?_
            refine g_get C 0 rfl rfl 18 (by decide) (fun _ h => (List.mem_cons_of_mem _ (List.mem_append_right _ h))) 2 rfl rfl rfl dX6_read_66 ?_
            refine g_goto C dX6_read_69 (tgt := 73) (by decide) ?_
            refine hR _ _ _ _ _ _ dX6_read_73 ?_ (by omega) (by omega)
            rcases h40 with ⟨f, z1, z2, z3⟩ | ⟨e, z1, z2, z3⟩
            · first
              | exact absurd (by rw [z3]; decide) h45
              | exact absurd (by rw [z3]; decide) h62
              | exact ⟨_, _, Or.inl ⟨f, z1, rfl, by rw [z2]⟩⟩
            · first
              | exact ⟨_, _, Or.inr ⟨e, z1, z2, rfl⟩⟩
              | (rw [z3] at h62; exact absurd h62 (by decide))
              | (rw [z3] at h45; exact absurd h45 (by decide))
    exact L41 _ r17 at17 wr17 (Nat.lt_succ_self _) (by first | exact Or.inl ⟨_, rd_0 hA17 (by omega), rfl, rfl⟩ | exact Or.inr ⟨_, rd_1 hA17 (by omega), rfl, rfl⟩ | exact Or.inr ⟨_, rd_e hA17, hpl17, hw17⟩)
  · skip
    obtain ⟨f17, q2, hA17, hq17, hr17, hpl17, hw17⟩ := psM_ok hP17 h25
    subst hr17
    subst hpl17
    subst hw17
    refine g_aload_n C dX6_read_28 1 rfl rfl ?_
    refine g_callUV C ⟨g_X0_ok, trivial⟩ (t_X6_next l D ty n0 np na nc nf nq no nx ny nl nh nb nw nt (nI 0) cp pl en rs tl tb hb htl q2 (by omega) (nI 0)) rfl gX6_read_X6_next 0 (by decide +kernel) rfl ⟨rfl, rfl⟩ ⟨Nat.le_of_ble_eq_true rfl, Nat.le_of_ble_eq_true rfl⟩ (rest := []) (q0 := 0) rfl rfl hA [0, 1] [] rfl rfl rfl (wr := []) rfl rfl rfl (Nat.le_of_ble_eq_true rfl) dX6_read_29 ⟨Nat.le_of_ble_eq_true rfl, Nat.le_of_ble_eq_true rfl⟩ rfl (g_kui (fun r w hr => ?_))
    obtain ⟨rfl, rfl⟩ := hr
    have hn29 := nxt_le (tb := tb) (tl := tl) (p := q2) (by omega)
    refine g_ws (ws' := [(n0, .inr (5, [.int (nI 0), .ref np, .ref na, .int cp, .ref nc, .int en, .ref nf, .ref nq, .ref no, .ref nx, .ref ny, .ref nl, .ref nh, .ref nb, .ref nw, .int pl, .ref nt, .int (nI tl), .int (nI (nxt tb tl q2)), .int (nI 0), .long rs])), (nt, .inl (ty.1, 300, .inl (zN tb)))]) [0, 1] rfl rfl rfl ?_
    refine g_iconst C dX6_read_32 (v := (-1)) (by decide) ?_
    refine g_icmp_eq C dX6_read_33 (tgt := 41) (by decide) (fun h33 => ?_) (fun h33 => ?_)
    · skip
      have hge := hre_m1 hb (t_eq.mpr h33)
      have L41 : ∀ (n9 : Nat) (r2 : Int64) (at2 wr2 : Int32), 0 < n9 → ((∃ f, rdF tb tl = .inl f ∧ r2 = f ∧ wr2 = nI 0) ∨ (∃ e, rdF tb tl = .inr e ∧ at2 = nI e ∧ wr2 = nI 1)) → gG (g_IU A D s) p l e rm_t_X6_read s m args below meth c Q 3 0 0 41 [(1, .long r2), (0, .ref n0)] [] [(n0, .inr (5, [.int (nI 0), .ref np, .ref na, .int cp, .ref nc, .int en, .ref nf, .ref nq, .ref no, .ref nx, .ref ny, .ref nl, .ref nh, .ref nb, .ref nw, .int pl, .ref nt, .int (nI tl), .int at2, .int wr2, .long rs])), (nt, .inl (ty.1, 300, .inl (zN tb)))] := by
        intro n9
        induction n9 with
        | zero => intro r2 at2 wr2 hn; exact absurd hn (Nat.not_lt_zero _)
        | succ n9 ih41 =>
          intro r2 at2 wr2 hn41 h40
          refine g_aload_n C dX6_read_41 1 rfl rfl ?_
          refine g_get C 0 rfl rfl 19 (by decide) (fun _ h => (List.mem_cons_of_mem _ (List.mem_append_right _ h))) 3 rfl rfl rfl dX6_read_42 ?_
          refine g_if_ne C dX6_read_45 (tgt := 53) (by decide) (fun h45 => ?_) (fun h45 => ?_)
          · skip
            refine g_aload_n C dX6_read_53 1 rfl rfl ?_
            refine g_iconst C dX6_read_54 (v := (nI 0)) (by decide) ?_
            refine g_put C 0 rfl rfl 17 (by decide) (fun _ h => (List.mem_cons_of_mem _ (List.mem_append_right _ h))) 5 rfl rfl tyX6 tyX6_ok nmX6 rfl rfl rfl rfl (Nat.le_of_ble_eq_true rfl) (ws' := [(n0, .inr (5, [.int (nI 0), .ref np, .ref na, .int cp, .ref nc, .int en, .ref nf, .ref nq, .ref no, .ref nx, .ref ny, .ref nl, .ref nh, .ref nb, .ref nw, .int pl, .ref nt, .int (nI 0), .int at2, .int wr2, .long rs])), (nt, .inl (ty.1, 300, .inl (zN tb)))]) rfl dX6_read_55 ?_
            refine g_aload_n C dX6_read_58 1 rfl rfl ?_
            refine g_get C 0 rfl rfl 19 (by decide) (fun _ h => (List.mem_cons_of_mem _ (List.mem_append_right _ h))) 3 rfl rfl rfl dX6_read_59 ?_
            refine g_if_eq C dX6_read_62 (tgt := 72) (by decide) (fun h62 => ?_) (fun h62 => ?_)
            · skip
              refine g_iconst C dX6_read_72 (v := (-1)) (by decide) ?_
              refine hR _ _ _ _ _ _ dX6_read_73 ?_ (by omega) (by omega)
              rcases h40 with ⟨f, z1, z2, z3⟩ | ⟨e, z1, z2, z3⟩
              · first
                | exact absurd (by rw [z3]; decide) h45
                | exact absurd (by rw [z3]; decide) h62
                | exact ⟨_, _, Or.inl ⟨f, z1, rfl, by rw [z2]⟩⟩
              · first
                | exact ⟨_, _, Or.inr ⟨e, z1, z2, rfl⟩⟩
                | (rw [z3] at h62; exact absurd h62 (by decide))
                | (rw [z3] at h45; exact absurd h45 (by decide))
            · skip
              refine g_aload_n C dX6_read_65 1 rfl rfl ?_
              refine g_get C 0 rfl rfl 18 (by decide) (fun _ h => (List.mem_cons_of_mem _ (List.mem_append_right _ h))) 2 rfl rfl rfl dX6_read_66 ?_
              refine g_goto C dX6_read_69 (tgt := 73) (by decide) ?_
              refine hR _ _ _ _ _ _ dX6_read_73 ?_ (by omega) (by omega)
              rcases h40 with ⟨f, z1, z2, z3⟩ | ⟨e, z1, z2, z3⟩
              · first
                | exact absurd (by rw [z3]; decide) h45
                | exact absurd (by rw [z3]; decide) h62
                | exact ⟨_, _, Or.inl ⟨f, z1, rfl, by rw [z2]⟩⟩
              · first
                | exact ⟨_, _, Or.inr ⟨e, z1, z2, rfl⟩⟩
                | (rw [z3] at h62; exact absurd h62 (by decide))
                | (rw [z3] at h45; exact absurd h45 (by decide))
          · skip
            refine g_aload_n C dX6_read_48 1 rfl rfl ?_
            refine g_lload_n C dX6_read_49 0 rfl rfl ?_
            refine g_put C 0 rfl rfl 20 (by decide) (fun _ h => (List.mem_cons_of_mem _ (List.mem_append_right _ h))) 4 rfl rfl tyX6 tyX6_ok nmX6 rfl rfl rfl rfl (Nat.le_of_ble_eq_true rfl) (ws' := [(n0, .inr (5, [.int (nI 0), .ref np, .ref na, .int cp, .ref nc, .int en, .ref nf, .ref nq, .ref no, .ref nx, .ref ny, .ref nl, .ref nh, .ref nb, .ref nw, .int pl, .ref nt, .int (nI tl), .int at2, .int wr2, .long r2])), (nt, .inl (ty.1, 300, .inl (zN tb)))]) rfl dX6_read_50 ?_
            refine g_aload_n C dX6_read_53 1 rfl rfl ?_
            refine g_iconst C dX6_read_54 (v := (nI 0)) (by decide) ?_
            refine g_put C 0 rfl rfl 17 (by decide) (fun _ h => (List.mem_cons_of_mem _ (List.mem_append_right _ h))) 5 rfl rfl tyX6 tyX6_ok nmX6 rfl rfl rfl rfl (Nat.le_of_ble_eq_true rfl) (ws' := [(n0, .inr (5, [.int (nI 0), .ref np, .ref na, .int cp, .ref nc, .int en, .ref nf, .ref nq, .ref no, .ref nx, .ref ny, .ref nl, .ref nh, .ref nb, .ref nw, .int pl, .ref nt, .int (nI 0), .int at2, .int wr2, .long r2])), (nt, .inl (ty.1, 300, .inl (zN tb)))]) rfl dX6_read_55 ?_
            refine g_aload_n C dX6_read_58 1 rfl rfl ?_
            refine g_get C 0 rfl rfl 19 (by decide) (fun _ h => (List.mem_cons_of_mem _ (List.mem_append_right _ h))) 3 rfl rfl rfl dX6_read_59 ?_
            refine g_if_eq C dX6_read_62 (tgt := 72) (by decide) (fun h62 => ?_) (fun h62 => ?_)
            · skip
              refine g_iconst C dX6_read_72 (v := (-1)) (by decide) ?_
              refine hR _ _ _ _ _ _ dX6_read_73 ?_ (by omega) (by omega)
              rcases h40 with ⟨f, z1, z2, z3⟩ | ⟨e, z1, z2, z3⟩
              · first
                | exact absurd (by rw [z3]; decide) h45
                | exact absurd (by rw [z3]; decide) h62
                | exact ⟨_, _, Or.inl ⟨f, z1, rfl, by rw [z2]⟩⟩
              · first
                | exact ⟨_, _, Or.inr ⟨e, z1, z2, rfl⟩⟩
                | (rw [z3] at h62; exact absurd h62 (by decide))
                | (rw [z3] at h45; exact absurd h45 (by decide))
            · skip
              refine g_aload_n C dX6_read_65 1 rfl rfl ?_
              refine g_get C 0 rfl rfl 18 (by decide) (fun _ h => (List.mem_cons_of_mem _ (List.mem_append_right _ h))) 2 rfl rfl rfl dX6_read_66 ?_
              refine g_goto C dX6_read_69 (tgt := 73) (by decide) ?_
              refine hR _ _ _ _ _ _ dX6_read_73 ?_ (by omega) (by omega)
              rcases h40 with ⟨f, z1, z2, z3⟩ | ⟨e, z1, z2, z3⟩
              · first
                | exact absurd (by rw [z3]; decide) h45
                | exact absurd (by rw [z3]; decide) h62
                | exact ⟨_, _, Or.inl ⟨f, z1, rfl, by rw [z2]⟩⟩
              · first
                | exact ⟨_, _, Or.inr ⟨e, z1, z2, rfl⟩⟩
                | (rw [z3] at h62; exact absurd h62 (by decide))
                | (rw [z3] at h45; exact absurd h45 (by decide))
      exact L41 _ r17 (nI (nxt tb tl q2)) (nI 0) (Nat.lt_succ_self _) (by first | exact Or.inl ⟨_, rd_0 hA17 (by omega), rfl, rfl⟩ | exact Or.inr ⟨_, rd_1 hA17 (by omega), rfl, rfl⟩ | exact Or.inr ⟨_, rd_e hA17, hpl17, hw17⟩)
    · skip
      have hlt := hre_in (fun z => h33 (t_eq.mp z))
      refine g_aload_n C dX6_read_36 1 rfl rfl ?_
      refine g_callUV C ⟨g_X0_ok, trivial⟩ (t_X6_wrong l D ty n0 np na nc nf nq no nx ny nl nh nb nw nt (nI 0) cp pl en rs tl tb hb htl (nI (nxt tb tl q2)) (nI 0)) rfl gX6_read_X6_wrong 0 (by decide +kernel) rfl ⟨rfl, rfl⟩ ⟨Nat.le_of_ble_eq_true rfl, Nat.le_of_ble_eq_true rfl⟩ (rest := []) (q0 := 0) rfl rfl hA [0, 1] [] rfl rfl rfl (wr := []) rfl rfl rfl (Nat.le_of_ble_eq_true rfl) dX6_read_37 ⟨Nat.le_of_ble_eq_true rfl, Nat.le_of_ble_eq_true rfl⟩ rfl (g_kul (fun r w hr => ?_))
      obtain ⟨rfl, rfl⟩ := hr
      refine g_ws (ws' := [(n0, .inr (5, [.int (nI 0), .ref np, .ref na, .int cp, .ref nc, .int en, .ref nf, .ref nq, .ref no, .ref nx, .ref ny, .ref nl, .ref nh, .ref nb, .ref nw, .int pl, .ref nt, .int (nI tl), .int (nI (nxt tb tl q2)), .int (nI 1), .long rs])), (nt, .inl (ty.1, 300, .inl (zN tb)))]) [0, 1] rfl rfl rfl ?_
      refine g_pop2 C dX6_read_40 rfl ?_
      have L41 : ∀ (n9 : Nat) (r2 : Int64) (at2 wr2 : Int32), 0 < n9 → ((∃ f, rdF tb tl = .inl f ∧ r2 = f ∧ wr2 = nI 0) ∨ (∃ e, rdF tb tl = .inr e ∧ at2 = nI e ∧ wr2 = nI 1)) → gG (g_IU A D s) p l e rm_t_X6_read s m args below meth c Q 3 0 0 41 [(1, .long r2), (0, .ref n0)] [] [(n0, .inr (5, [.int (nI 0), .ref np, .ref na, .int cp, .ref nc, .int en, .ref nf, .ref nq, .ref no, .ref nx, .ref ny, .ref nl, .ref nh, .ref nb, .ref nw, .int pl, .ref nt, .int (nI tl), .int at2, .int wr2, .long rs])), (nt, .inl (ty.1, 300, .inl (zN tb)))] := by
        intro n9
        induction n9 with
        | zero => intro r2 at2 wr2 hn; exact absurd hn (Nat.not_lt_zero _)
        | succ n9 ih41 =>
          intro r2 at2 wr2 hn41 h40
          refine g_aload_n C dX6_read_41 1 rfl rfl ?_
          refine g_get C 0 rfl rfl 19 (by decide) (fun _ h => (List.mem_cons_of_mem _ (List.mem_append_right _ h))) 3 rfl rfl rfl dX6_read_42 ?_
          refine g_if_ne C dX6_read_45 (tgt := 53) (by decide) (fun h45 => ?_) (fun h45 => ?_)
          · skip
            refine g_aload_n C dX6_read_53 1 rfl rfl ?_
            refine g_iconst C dX6_read_54 (v := (nI 0)) (by decide) ?_
            refine g_put C 0 rfl rfl 17 (by decide) (fun _ h => (List.mem_cons_of_mem _ (List.mem_append_right _ h))) 5 rfl rfl tyX6 tyX6_ok nmX6 rfl rfl rfl rfl (Nat.le_of_ble_eq_true rfl) (ws' := [(n0, .inr (5, [.int (nI 0), .ref np, .ref na, .int cp, .ref nc, .int en, .ref nf, .ref nq, .ref no, .ref nx, .ref ny, .ref nl, .ref nh, .ref nb, .ref nw, .int pl, .ref nt, .int (nI 0), .int at2, .int wr2, .long rs])), (nt, .inl (ty.1, 300, .inl (zN tb)))]) rfl dX6_read_55 ?_
            refine g_aload_n C dX6_read_58 1 rfl rfl ?_
            refine g_get C 0 rfl rfl 19 (by decide) (fun _ h => (List.mem_cons_of_mem _ (List.mem_append_right _ h))) 3 rfl rfl rfl dX6_read_59 ?_
            refine g_if_eq C dX6_read_62 (tgt := 72) (by decide) (fun h62 => ?_) (fun h62 => ?_)
            · skip
              refine g_iconst C dX6_read_72 (v := (-1)) (by decide) ?_
              refine hR _ _ _ _ _ _ dX6_read_73 ?_ (by omega) (by omega)
              rcases h40 with ⟨f, z1, z2, z3⟩ | ⟨e, z1, z2, z3⟩
              · first
                | exact absurd (by rw [z3]; decide) h45
                | exact absurd (by rw [z3]; decide) h62
                | exact ⟨_, _, Or.inl ⟨f, z1, rfl, by rw [z2]⟩⟩
              · first
                | exact ⟨_, _, Or.inr ⟨e, z1, z2, rfl⟩⟩
                | (rw [z3] at h62; exact absurd h62 (by decide))
                | (rw [z3] at h45; exact absurd h45 (by decide))
            · skip
              refine g_aload_n C dX6_read_65 1 rfl rfl ?_
              refine g_get C 0 rfl rfl 18 (by decide) (fun _ h => (List.mem_cons_of_mem _ (List.mem_append_right _ h))) 2 rfl rfl rfl dX6_read_66 ?_
              refine g_goto C dX6_read_69 (tgt := 73) (by decide) ?_
              refine hR _ _ _ _ _ _ dX6_read_73 ?_ (by omega) (by omega)
              rcases h40 with ⟨f, z1, z2, z3⟩ | ⟨e, z1, z2, z3⟩
              · first
                | exact absurd (by rw [z3]; decide) h45
                | exact absurd (by rw [z3]; decide) h62
                | exact ⟨_, _, Or.inl ⟨f, z1, rfl, by rw [z2]⟩⟩
              · first
                | exact ⟨_, _, Or.inr ⟨e, z1, z2, rfl⟩⟩
                | (rw [z3] at h62; exact absurd h62 (by decide))
                | (rw [z3] at h45; exact absurd h45 (by decide))
          · skip
            refine g_aload_n C dX6_read_48 1 rfl rfl ?_
            refine g_lload_n C dX6_read_49 0 rfl rfl ?_
            refine g_put C 0 rfl rfl 20 (by decide) (fun _ h => (List.mem_cons_of_mem _ (List.mem_append_right _ h))) 4 rfl rfl tyX6 tyX6_ok nmX6 rfl rfl rfl rfl (Nat.le_of_ble_eq_true rfl) (ws' := [(n0, .inr (5, [.int (nI 0), .ref np, .ref na, .int cp, .ref nc, .int en, .ref nf, .ref nq, .ref no, .ref nx, .ref ny, .ref nl, .ref nh, .ref nb, .ref nw, .int pl, .ref nt, .int (nI tl), .int at2, .int wr2, .long r2])), (nt, .inl (ty.1, 300, .inl (zN tb)))]) rfl dX6_read_50 ?_
            refine g_aload_n C dX6_read_53 1 rfl rfl ?_
            refine g_iconst C dX6_read_54 (v := (nI 0)) (by decide) ?_
            refine g_put C 0 rfl rfl 17 (by decide) (fun _ h => (List.mem_cons_of_mem _ (List.mem_append_right _ h))) 5 rfl rfl tyX6 tyX6_ok nmX6 rfl rfl rfl rfl (Nat.le_of_ble_eq_true rfl) (ws' := [(n0, .inr (5, [.int (nI 0), .ref np, .ref na, .int cp, .ref nc, .int en, .ref nf, .ref nq, .ref no, .ref nx, .ref ny, .ref nl, .ref nh, .ref nb, .ref nw, .int pl, .ref nt, .int (nI 0), .int at2, .int wr2, .long r2])), (nt, .inl (ty.1, 300, .inl (zN tb)))]) rfl dX6_read_55 ?_
            refine g_aload_n C dX6_read_58 1 rfl rfl ?_
            refine g_get C 0 rfl rfl 19 (by decide) (fun _ h => (List.mem_cons_of_mem _ (List.mem_append_right _ h))) 3 rfl rfl rfl dX6_read_59 ?_
            refine g_if_eq C dX6_read_62 (tgt := 72) (by decide) (fun h62 => ?_) (fun h62 => ?_)
            · skip
              refine g_iconst C dX6_read_72 (v := (-1)) (by decide) ?_
              refine hR _ _ _ _ _ _ dX6_read_73 ?_ (by omega) (by omega)
              rcases h40 with ⟨f, z1, z2, z3⟩ | ⟨e, z1, z2, z3⟩
              · first
                | exact absurd (by rw [z3]; decide) h45
                | exact absurd (by rw [z3]; decide) h62
                | exact ⟨_, _, Or.inl ⟨f, z1, rfl, by rw [z2]⟩⟩
              · first
                | exact ⟨_, _, Or.inr ⟨e, z1, z2, rfl⟩⟩
                | (rw [z3] at h62; exact absurd h62 (by decide))
                | (rw [z3] at h45; exact absurd h45 (by decide))
            · skip
              refine g_aload_n C dX6_read_65 1 rfl rfl ?_
              refine g_get C 0 rfl rfl 18 (by decide) (fun _ h => (List.mem_cons_of_mem _ (List.mem_append_right _ h))) 2 rfl rfl rfl dX6_read_66 ?_
              refine g_goto C dX6_read_69 (tgt := 73) (by decide) ?_
              refine hR _ _ _ _ _ _ dX6_read_73 ?_ (by omega) (by omega)
              rcases h40 with ⟨f, z1, z2, z3⟩ | ⟨e, z1, z2, z3⟩
              · first
                | exact absurd (by rw [z3]; decide) h45
                | exact absurd (by rw [z3]; decide) h62
                | exact ⟨_, _, Or.inl ⟨f, z1, rfl, by rw [z2]⟩⟩
              · first
                | exact ⟨_, _, Or.inr ⟨e, z1, z2, rfl⟩⟩
                | (rw [z3] at h62; exact absurd h62 (by decide))
                | (rw [z3] at h45; exact absurd h45 (by decide))
      exact L41 _ r17 (nI (nxt tb tl q2)) (nI 1) (Nat.lt_succ_self _) (by first | exact Or.inl ⟨_, rd_0 hA17 (by omega), rfl, rfl⟩ | exact Or.inr ⟨_, rd_1 hA17 (by omega), rfl, rfl⟩ | exact Or.inr ⟨_, rd_e hA17, hpl17, hw17⟩)


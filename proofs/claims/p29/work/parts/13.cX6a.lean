
abbrev rm_t_X5_isOperation : Room := ({ frames := 0, cells := 0, slots := 0, locals := 0 } : Room)
set_option maxHeartbeats 4000000 in
set_option maxRecDepth 100000 in
theorem t_X5_isOperation (l : Launch) (D : va_G) (ty : g_T3) (op : Int32) : g_P l yX5_isOperation wsX5_isOperation rm_t_X5_isOperation D ty g_X0 [.int op] [] (g_pi (fun r => r = nI (inB op (nI 0) (nI 9)).toNat)) := by
  refine g_ofPz (cc := cX5_isOperation) (nL := 1) (own := RX5) (by decide) rfl rfl g_X0_ok (Nat.le_of_ble_eq_true rfl) ?_
  intro p e s m args below meth c Q C hX hR
  refine g_lv (lv' := [(0, .int op)]) [0] rfl ?_
  have c0 := nI_toInt (n := 0) (by decide)
  have c1 := nI_toInt (n := 9) (by decide)
  refine g_iload_n C dX5_isOperation_0 0 rfl rfl ?_
  refine g_if_lt C dX5_isOperation_1 (tgt := 14) (by decide) (fun h1 => ?_) (fun h1 => ?_)
  · skip
    have hf : inB op (nI 0) (nI 9) = false := in_f (by omega)
    refine g_iconst C dX5_isOperation_14 (v := (nI 0)) (by decide) ?_
    refine hR _ _ _ _ rfl dX5_isOperation_15 ?_
    first | exact n1_t hf | exact n0_f hf
  · skip
    refine g_iload_n C dX5_isOperation_4 0 rfl rfl ?_
    refine g_bipush C dX5_isOperation_5 (v := (nI 10)) (by decide) ?_
    refine g_icmp_ge C dX5_isOperation_7 (tgt := 14) (by decide) (fun h7 => ?_) (fun h7 => ?_)
    · skip
      rw [nI_toInt (by omega)] at h7
      have hf : inB op (nI 0) (nI 9) = false := in_f (by omega)
      refine g_iconst C dX5_isOperation_14 (v := (nI 0)) (by decide) ?_
      refine hR _ _ _ _ rfl dX5_isOperation_15 ?_
      first | exact n1_t hf | exact n0_f hf
    · skip
      rw [nI_toInt (by omega)] at h7
      have hf : inB op (nI 0) (nI 9) = true := in_t (by omega) (by omega)
      refine g_iconst C dX5_isOperation_10 (v := (nI 1)) (by decide) ?_
      refine g_goto C dX5_isOperation_11 (tgt := 15) (by decide) ?_
      refine hR _ _ _ _ rfl dX5_isOperation_15 ?_
      first | exact n1_t hf | exact n0_f hf

abbrev rm_t_X5_isInput : Room := ({ frames := 0, cells := 0, slots := 0, locals := 0 } : Room)
set_option maxHeartbeats 4000000 in
set_option maxRecDepth 100000 in
theorem t_X5_isInput (l : Launch) (D : va_G) (ty : g_T3) (op : Int32) : g_P l yX5_isInput wsX5_isInput rm_t_X5_isInput D ty g_X0 [.int op] [] (g_pi (fun r => r = nI (inB op (nI 0) (nI 15)).toNat)) := by
  refine g_ofPz (cc := cX5_isInput) (nL := 1) (own := RX5) (by decide) rfl rfl g_X0_ok (Nat.le_of_ble_eq_true rfl) ?_
  intro p e s m args below meth c Q C hX hR
  refine g_lv (lv' := [(0, .int op)]) [0] rfl ?_
  have c0 := nI_toInt (n := 0) (by decide)
  have c1 := nI_toInt (n := 15) (by decide)
  refine g_iload_n C dX5_isInput_0 0 rfl rfl ?_
  refine g_if_lt C dX5_isInput_1 (tgt := 14) (by decide) (fun h1 => ?_) (fun h1 => ?_)
  · skip
    have hf : inB op (nI 0) (nI 15) = false := in_f (by omega)
    refine g_iconst C dX5_isInput_14 (v := (nI 0)) (by decide) ?_
    refine hR _ _ _ _ rfl dX5_isInput_15 ?_
    first | exact n1_t hf | exact n0_f hf
  · skip
    refine g_iload_n C dX5_isInput_4 0 rfl rfl ?_
    refine g_bipush C dX5_isInput_5 (v := (nI 16)) (by decide) ?_
    refine g_icmp_ge C dX5_isInput_7 (tgt := 14) (by decide) (fun h7 => ?_) (fun h7 => ?_)
    · skip
      rw [nI_toInt (by omega)] at h7
      have hf : inB op (nI 0) (nI 15) = false := in_f (by omega)
      refine g_iconst C dX5_isInput_14 (v := (nI 0)) (by decide) ?_
      refine hR _ _ _ _ rfl dX5_isInput_15 ?_
      first | exact n1_t hf | exact n0_f hf
    · skip
      rw [nI_toInt (by omega)] at h7
      have hf : inB op (nI 0) (nI 15) = true := in_t (by omega) (by omega)
      refine g_iconst C dX5_isInput_10 (v := (nI 1)) (by decide) ?_
      refine g_goto C dX5_isInput_11 (tgt := 15) (by decide) ?_
      refine hR _ _ _ _ rfl dX5_isInput_15 ?_
      first | exact n1_t hf | exact n0_f hf

abbrev rm_t_X5_isCost : Room := ({ frames := 0, cells := 0, slots := 0, locals := 0 } : Room)
set_option maxHeartbeats 4000000 in
set_option maxRecDepth 100000 in
theorem t_X5_isCost (l : Launch) (D : va_G) (ty : g_T3) (op : Int32) : g_P l yX5_isCost wsX5_isCost rm_t_X5_isCost D ty g_X0 [.int op] [] (g_pi (fun r => r = nI (inB op (nI 0) (nI 6)).toNat)) := by
  refine g_ofPz (cc := cX5_isCost) (nL := 1) (own := RX5) (by decide) rfl rfl g_X0_ok (Nat.le_of_ble_eq_true rfl) ?_
  intro p e s m args below meth c Q C hX hR
  refine g_lv (lv' := [(0, .int op)]) [0] rfl ?_
  have c0 := nI_toInt (n := 0) (by decide)
  have c1 := nI_toInt (n := 6) (by decide)
  refine g_iload_n C dX5_isCost_0 0 rfl rfl ?_
  refine g_if_lt C dX5_isCost_1 (tgt := 14) (by decide) (fun h1 => ?_) (fun h1 => ?_)
  · skip
    have hf : inB op (nI 0) (nI 6) = false := in_f (by omega)
    refine g_iconst C dX5_isCost_14 (v := (nI 0)) (by decide) ?_
    refine hR _ _ _ _ rfl dX5_isCost_15 ?_
    first | exact n1_t hf | exact n0_f hf
  · skip
    refine g_iload_n C dX5_isCost_4 0 rfl rfl ?_
    refine g_bipush C dX5_isCost_5 (v := (nI 6)) (by decide) ?_
    refine g_icmp_gt C dX5_isCost_7 (tgt := 14) (by decide) (fun h7 => ?_) (fun h7 => ?_)
    · skip
      rw [nI_toInt (by omega)] at h7
      have hf : inB op (nI 0) (nI 6) = false := in_f (by omega)
      refine g_iconst C dX5_isCost_14 (v := (nI 0)) (by decide) ?_
      refine hR _ _ _ _ rfl dX5_isCost_15 ?_
      first | exact n1_t hf | exact n0_f hf
    · skip
      rw [nI_toInt (by omega)] at h7
      have hf : inB op (nI 0) (nI 6) = true := in_t (by omega) (by omega)
      refine g_iconst C dX5_isCost_10 (v := (nI 1)) (by decide) ?_
      refine g_goto C dX5_isCost_11 (tgt := 15) (by decide) ?_
      refine hR _ _ _ _ rfl dX5_isCost_15 ?_
      first | exact n1_t hf | exact n0_f hf

abbrev rm_t_X5_hasTwoArguments : Room := ({ frames := 0, cells := 0, slots := 0, locals := 0 } : Room)
set_option maxHeartbeats 4000000 in
set_option maxRecDepth 100000 in
theorem t_X5_hasTwoArguments (l : Launch) (D : va_G) (ty : g_T3) (op : Int32) : g_P l yX5_hasTwoArguments wsX5_hasTwoArguments rm_t_X5_hasTwoArguments D ty g_X0 [.int op] [] (g_pi (fun r => r = nI (inB op (nI 4) (nI 9)).toNat)) := by
  refine g_ofPz (cc := cX5_hasTwoArguments) (nL := 1) (own := RX5) (by decide) rfl rfl g_X0_ok (Nat.le_of_ble_eq_true rfl) ?_
  intro p e s m args below meth c Q C hX hR
  refine g_lv (lv' := [(0, .int op)]) [0] rfl ?_
  have c0 := nI_toInt (n := 4) (by decide)
  have c1 := nI_toInt (n := 9) (by decide)
  refine g_iload_n C dX5_hasTwoArguments_0 0 rfl rfl ?_
  refine g_iconst C dX5_hasTwoArguments_1 (v := (nI 4)) (by decide) ?_
  refine g_icmp_lt C dX5_hasTwoArguments_2 (tgt := 15) (by decide) (fun h2 => ?_) (fun h2 => ?_)
  · skip
    rw [nI_toInt (by omega)] at h2
    have hf : inB op (nI 4) (nI 9) = false := in_f (by omega)
    refine g_iconst C dX5_hasTwoArguments_15 (v := (nI 0)) (by decide) ?_
    refine hR _ _ _ _ rfl dX5_hasTwoArguments_16 ?_
    first | exact n1_t hf | exact n0_f hf
  · skip
    rw [nI_toInt (by omega)] at h2
    refine g_iload_n C dX5_hasTwoArguments_5 0 rfl rfl ?_
    refine g_bipush C dX5_hasTwoArguments_6 (v := (nI 10)) (by decide) ?_
    refine g_icmp_ge C dX5_hasTwoArguments_8 (tgt := 15) (by decide) (fun h8 => ?_) (fun h8 => ?_)
    · skip
      rw [nI_toInt (by omega)] at h8
      have hf : inB op (nI 4) (nI 9) = false := in_f (by omega)
      refine g_iconst C dX5_hasTwoArguments_15 (v := (nI 0)) (by decide) ?_
      refine hR _ _ _ _ rfl dX5_hasTwoArguments_16 ?_
      first | exact n1_t hf | exact n0_f hf
    · skip
      rw [nI_toInt (by omega)] at h8
      have hf : inB op (nI 4) (nI 9) = true := in_t (by omega) (by omega)
      refine g_iconst C dX5_hasTwoArguments_11 (v := (nI 1)) (by decide) ?_
      refine g_goto C dX5_hasTwoArguments_12 (tgt := 16) (by decide) ?_
      refine hR _ _ _ _ rfl dX5_hasTwoArguments_16 ?_
      first | exact n1_t hf | exact n0_f hf

abbrev rm_t_X5_countOn : Room := ({ frames := 0, cells := 0, slots := 0, locals := 0 } : Room)
set_option maxHeartbeats 4000000 in
set_option maxRecDepth 100000 in
theorem t_X5_countOn (l : Launch) (D : va_G) (ty : g_T3) (a n : Nat) (b : Nat → Bool) (hn : n < 2 ^ 30) : g_P l yX5_countOn wsX5_countOn rm_t_X5_countOn D ty g_X0 [.ref a] [(a, .inl (ty.2.2, n, .inl (zB b)))] (g_pi (fun r => r = nI (ctB b n))) := by
  refine g_ofPi (cc := cX5_countOn) (nL := 6) (own := RX5) (by decide) rfl rfl g_X0_ok (Nat.le_of_ble_eq_true rfl) ?_
  intro p e s m args below meth c Q C hX hR
  refine g_lv (lv' := [(0, .ref a)]) [0] rfl ?_
  refine g_iconst C dX5_countOn_0 (v := (nI 0)) (by decide) ?_
  refine g_istore_n C dX5_countOn_1 rfl (by decide) (lv' := [(1, .int (nI 0)), (0, .ref a)]) rfl ?_
  refine g_aload_n C dX5_countOn_2 1 rfl rfl ?_
  refine g_astore_n C dX5_countOn_3 rfl (by decide) (lv' := [(2, .ref a), (1, .int (nI 0)), (0, .ref a)]) rfl ?_
  refine g_aload_n C dX5_countOn_4 0 rfl rfl ?_
  refine g_alen C (v := nI n) 0 rfl (t0 := 2) rfl rfl dX5_countOn_5 ?_
  refine g_istore_n C dX5_countOn_6 rfl (by decide) (lv' := [(3, .int (nI n)), (2, .ref a), (1, .int (nI 0)), (0, .ref a)]) rfl ?_
  refine g_iconst C dX5_countOn_7 (v := (nI 0)) (by decide) ?_
  refine g_istore C dX5_countOn_8 (by decide) (lv' := [(4, .int (nI 0)), (3, .int (nI n)), (2, .ref a), (1, .int (nI 0)), (0, .ref a)]) rfl ?_
  have L10 : ∀ (n9 : Nat) (i : Nat), n - i < n9 → (i ≤ n) → gG (g_IP D s [(a, .inl (ty.2.2, n, .inl (zB b)))]) p l e rm_t_X5_countOn s m args below meth c Q 6 0 0 10 [(4, .int (nI i)), (3, .int (nI n)), (1, .int (nI (ctB b i))), (2, .ref a)] [] [(a, .inl (ty.2.2, n, .inl (zB b)))] := by
    intro n9
    induction n9 with
    | zero => intro i hn; exact absurd hn (Nat.not_lt_zero _)
    | succ n9 ih10 =>
      intro i hn10 hi
      have hb := bt_lt (b i)
      have hc := ctB_le b i
      refine g_iload C dX5_countOn_10 0 rfl ?_
      refine g_iload_n C dX5_countOn_12 1 rfl rfl ?_
      refine g_icmp_geN C dX5_countOn_13 (tgt := 41) (by decide) (by omega) (by omega) (fun h13 => ?_) (fun h13 => ?_)
      · skip
        have hin : i = n := by omega
        refine g_iload_n C dX5_countOn_41 2 rfl rfl ?_
        exact hR _ _ _ _ dX5_countOn_42 (by rw [hin])
      · skip
        refine g_aload_n C dX5_countOn_16 3 rfl rfl ?_
        refine g_iload C dX5_countOn_17 0 rfl ?_
        refine g_zald C (v := (nI ((b i).toNat))) 0 rfl (by omega) (by omega) rfl dX5_countOn_19 ?_
        refine g_istore C dX5_countOn_20 (by decide) (lv' := [(5, .int (nI ((b i).toNat))), (4, .int (nI i)), (3, .int (nI n)), (1, .int (nI (ctB b i))), (2, .ref a)]) rfl ?_
        refine g_iload_n C dX5_countOn_22 3 rfl rfl ?_
        refine g_iload C dX5_countOn_23 0 rfl ?_
        refine g_if_eqN C dX5_countOn_25 (tgt := 32) (by decide) (by omega) (fun h25 => ?_) (fun h25 => ?_)
        · skip
          refine g_iconst C dX5_countOn_32 (v := (nI 0)) (by decide) ?_
          refine g_iadd C dX5_countOn_33 (v := (nI (ctB b (i + 1)))) (by rw [nI_add]; show _ = nI (ctB b i + (b i).toNat); congr 1; omega) ?_
          refine g_istore_n C dX5_countOn_34 rfl (by decide) (lv' := [(1, .int (nI (ctB b (i + 1)))), (5, .int (nI ((b i).toNat))), (4, .int (nI i)), (3, .int (nI n)), (2, .ref a)]) rfl ?_
          refine g_iinc C dX5_countOn_35 2 rfl (v := (nI (i + 1))) (nI_1 i) (by decide) (lv' := [(4, .int (nI (i + 1))), (1, .int (nI (ctB b (i + 1)))), (5, .int (nI ((b i).toNat))), (3, .int (nI n)), (2, .ref a)]) rfl ?_
          refine g_goto C dX5_countOn_38 (tgt := 10) (by decide) ?_
          refine g_lv [0, 3, 1, 4] rfl ?_
          exact ih10 (i + 1) (by omega) (by omega)
        · skip
          refine g_iconst C dX5_countOn_28 (v := (nI 1)) (by decide) ?_
          refine g_goto C dX5_countOn_29 (tgt := 33) (by decide) ?_
          refine g_iadd C dX5_countOn_33 (v := (nI (ctB b (i + 1)))) (by rw [nI_add]; show _ = nI (ctB b i + (b i).toNat); congr 1; omega) ?_
          refine g_istore_n C dX5_countOn_34 rfl (by decide) (lv' := [(1, .int (nI (ctB b (i + 1)))), (5, .int (nI ((b i).toNat))), (4, .int (nI i)), (3, .int (nI n)), (2, .ref a)]) rfl ?_
          refine g_iinc C dX5_countOn_35 2 rfl (v := (nI (i + 1))) (nI_1 i) (by decide) (lv' := [(4, .int (nI (i + 1))), (1, .int (nI (ctB b (i + 1)))), (5, .int (nI ((b i).toNat))), (3, .int (nI n)), (2, .ref a)]) rfl ?_
          refine g_goto C dX5_countOn_38 (tgt := 10) (by decide) ?_
          refine g_lv [0, 3, 1, 4] rfl ?_
          exact ih10 (i + 1) (by omega) (by omega)
  refine g_lv [0, 1, 3, 2] rfl ?_
  exact L10 _ 0 (Nat.lt_succ_self _) (by omega)


abbrev rm_t_X6_isIn : Room := ({ frames := 0, cells := 0, slots := 0, locals := 0 } : Room)
set_option maxHeartbeats 4000000 in
set_option maxRecDepth 100000 in
theorem t_X6_isIn (l : Launch) (D : va_G) (ty : g_T3) (v lo hi : Int32) : g_P l yX6_isIn wsX6_isIn rm_t_X6_isIn D ty g_X0 [.int v, .int lo, .int hi] [] (g_pi (fun r => r = nI (inB v lo hi).toNat)) := by
  refine g_ofPz (cc := cX6_isIn) (nL := 3) (own := RX6) (by decide) rfl rfl g_X0_ok (Nat.le_of_ble_eq_true rfl) ?_
  intro p e s m args below meth c Q C hX hR
  refine g_lv (lv' := [(0, .int v), (1, .int lo), (2, .int hi)]) [0, 1, 2] rfl ?_
  refine g_iload_n C dX6_isIn_0 0 rfl rfl ?_
  refine g_iload_n C dX6_isIn_1 1 rfl rfl ?_
  refine g_icmp_lt C dX6_isIn_2 (tgt := 14) (by decide) (fun h2 => ?_) (fun h2 => ?_)
  · skip
    have hf : inB v lo hi = false := in_f (Or.inl h2)
    refine g_iconst C dX6_isIn_14 (v := (nI 0)) (by decide) ?_
    refine hR _ _ _ _ rfl dX6_isIn_15 ?_
    first | exact n1_t hf | exact n0_f hf
  · skip
    refine g_iload_n C dX6_isIn_5 0 rfl rfl ?_
    refine g_iload_n C dX6_isIn_6 2 rfl rfl ?_
    refine g_icmp_gt C dX6_isIn_7 (tgt := 14) (by decide) (fun h7 => ?_) (fun h7 => ?_)
    · skip
      have hf : inB v lo hi = false := in_f (Or.inr h7)
      refine g_iconst C dX6_isIn_14 (v := (nI 0)) (by decide) ?_
      refine hR _ _ _ _ rfl dX6_isIn_15 ?_
      first | exact n1_t hf | exact n0_f hf
    · skip
      have hf : inB v lo hi = true := in_t h2 h7
      refine g_iconst C dX6_isIn_10 (v := (nI 1)) (by decide) ?_
      refine g_goto C dX6_isIn_11 (tgt := 15) (by decide) ?_
      refine hR _ _ _ _ rfl dX6_isIn_15 ?_
      first | exact n1_t hf | exact n0_f hf

abbrev rm_t_X5_isOperation : Room := ({ frames := 0, cells := 0, slots := 0, locals := 0 } : Room)
set_option maxHeartbeats 4000000 in
set_option maxRecDepth 100000 in
theorem t_X5_isOperation (l : Launch) (D : va_G) (ty : g_T3) (op : Int32) : g_P l yX5_isOperation wsX5_isOperation rm_t_X5_isOperation D ty g_X0 [.int op] [] (g_pi (fun r => r = nI (inB op (nI 0) (nI 9)).toNat)) := by
  refine g_ofPz (cc := cX5_isOperation) (nL := 1) (own := RX5) (by decide) rfl rfl g_X0_ok (Nat.le_of_ble_eq_true rfl) ?_
  intro p e s m args below meth c Q C hX hR
  refine g_lv (lv' := [(0, .int op)]) [0] rfl ?_
  have c0 := nI_toInt (n := 0) (by decide)
  have c1 := nI_toInt (n := 9) (by decide)
  refine g_iload_n C dX5_isOperation_0 0 rfl rfl ?_
  refine g_if_lt C dX5_isOperation_1 (tgt := 14) (by decide) (fun h1 => ?_) (fun h1 => ?_)
  · skip
    have hf : inB op (nI 0) (nI 9) = false := in_f (by omega)
    refine g_iconst C dX5_isOperation_14 (v := (nI 0)) (by decide) ?_
    refine hR _ _ _ _ rfl dX5_isOperation_15 ?_
    first | exact n1_t hf | exact n0_f hf
  · skip
    refine g_iload_n C dX5_isOperation_4 0 rfl rfl ?_
    refine g_bipush C dX5_isOperation_5 (v := (nI 10)) (by decide) ?_
    refine g_icmp_ge C dX5_isOperation_7 (tgt := 14) (by decide) (fun h7 => ?_) (fun h7 => ?_)
    · skip
      rw [nI_toInt (by omega)] at h7
      have hf : inB op (nI 0) (nI 9) = false := in_f (by omega)
      refine g_iconst C dX5_isOperation_14 (v := (nI 0)) (by decide) ?_
      refine hR _ _ _ _ rfl dX5_isOperation_15 ?_
      first | exact n1_t hf | exact n0_f hf
    · skip
      rw [nI_toInt (by omega)] at h7
      have hf : inB op (nI 0) (nI 9) = true := in_t (by omega) (by omega)
      refine g_iconst C dX5_isOperation_10 (v := (nI 1)) (by decide) ?_
      refine g_goto C dX5_isOperation_11 (tgt := 15) (by decide) ?_
      refine hR _ _ _ _ rfl dX5_isOperation_15 ?_
      first | exact n1_t hf | exact n0_f hf

abbrev rm_t_X5_isInput : Room := ({ frames := 0, cells := 0, slots := 0, locals := 0 } : Room)
set_option maxHeartbeats 4000000 in
set_option maxRecDepth 100000 in
theorem t_X5_isInput (l : Launch) (D : va_G) (ty : g_T3) (op : Int32) : g_P l yX5_isInput wsX5_isInput rm_t_X5_isInput D ty g_X0 [.int op] [] (g_pi (fun r => r = nI (inB op (nI 0) (nI 15)).toNat)) := by
  refine g_ofPz (cc := cX5_isInput) (nL := 1) (own := RX5) (by decide) rfl rfl g_X0_ok (Nat.le_of_ble_eq_true rfl) ?_
  intro p e s m args below meth c Q C hX hR
  refine g_lv (lv' := [(0, .int op)]) [0] rfl ?_
  have c0 := nI_toInt (n := 0) (by decide)
  have c1 := nI_toInt (n := 15) (by decide)
  refine g_iload_n C dX5_isInput_0 0 rfl rfl ?_
  refine g_if_lt C dX5_isInput_1 (tgt := 14) (by decide) (fun h1 => ?_) (fun h1 => ?_)
  · skip
    have hf : inB op (nI 0) (nI 15) = false := in_f (by omega)
    refine g_iconst C dX5_isInput_14 (v := (nI 0)) (by decide) ?_
    refine hR _ _ _ _ rfl dX5_isInput_15 ?_
    first | exact n1_t hf | exact n0_f hf
  · skip
    refine g_iload_n C dX5_isInput_4 0 rfl rfl ?_
    refine g_bipush C dX5_isInput_5 (v := (nI 16)) (by decide) ?_
    refine g_icmp_ge C dX5_isInput_7 (tgt := 14) (by decide) (fun h7 => ?_) (fun h7 => ?_)
    · skip
      rw [nI_toInt (by omega)] at h7
      have hf : inB op (nI 0) (nI 15) = false := in_f (by omega)
      refine g_iconst C dX5_isInput_14 (v := (nI 0)) (by decide) ?_
      refine hR _ _ _ _ rfl dX5_isInput_15 ?_
      first | exact n1_t hf | exact n0_f hf
    · skip
      rw [nI_toInt (by omega)] at h7
      have hf : inB op (nI 0) (nI 15) = true := in_t (by omega) (by omega)
      refine g_iconst C dX5_isInput_10 (v := (nI 1)) (by decide) ?_
      refine g_goto C dX5_isInput_11 (tgt := 15) (by decide) ?_
      refine hR _ _ _ _ rfl dX5_isInput_15 ?_
      first | exact n1_t hf | exact n0_f hf

abbrev rm_t_X5_isCost : Room := ({ frames := 0, cells := 0, slots := 0, locals := 0 } : Room)
set_option maxHeartbeats 4000000 in
set_option maxRecDepth 100000 in
theorem t_X5_isCost (l : Launch) (D : va_G) (ty : g_T3) (op : Int32) : g_P l yX5_isCost wsX5_isCost rm_t_X5_isCost D ty g_X0 [.int op] [] (g_pi (fun r => r = nI (inB op (nI 0) (nI 6)).toNat)) := by
  refine g_ofPz (cc := cX5_isCost) (nL := 1) (own := RX5) (by decide) rfl rfl g_X0_ok (Nat.le_of_ble_eq_true rfl) ?_
  intro p e s m args below meth c Q C hX hR
  refine g_lv (lv' := [(0, .int op)]) [0] rfl ?_
  have c0 := nI_toInt (n := 0) (by decide)
  have c1 := nI_toInt (n := 6) (by decide)
  refine g_iload_n C dX5_isCost_0 0 rfl rfl ?_
  refine g_if_lt C dX5_isCost_1 (tgt := 14) (by decide) (fun h1 => ?_) (fun h1 => ?_)
  · skip
    have hf : inB op (nI 0) (nI 6) = false := in_f (by omega)
    refine g_iconst C dX5_isCost_14 (v := (nI 0)) (by decide) ?_
    refine hR _ _ _ _ rfl dX5_isCost_15 ?_
    first | exact n1_t hf | exact n0_f hf
  · skip
    refine g_iload_n C dX5_isCost_4 0 rfl rfl ?_
    refine g_bipush C dX5_isCost_5 (v := (nI 6)) (by decide) ?_
    refine g_icmp_gt C dX5_isCost_7 (tgt := 14) (by decide) (fun h7 => ?_) (fun h7 => ?_)
    · skip
      rw [nI_toInt (by omega)] at h7
      have hf : inB op (nI 0) (nI 6) = false := in_f (by omega)
      refine g_iconst C dX5_isCost_14 (v := (nI 0)) (by decide) ?_
      refine hR _ _ _ _ rfl dX5_isCost_15 ?_
      first | exact n1_t hf | exact n0_f hf
    · skip
      rw [nI_toInt (by omega)] at h7
      have hf : inB op (nI 0) (nI 6) = true := in_t (by omega) (by omega)
      refine g_iconst C dX5_isCost_10 (v := (nI 1)) (by decide) ?_
      refine g_goto C dX5_isCost_11 (tgt := 15) (by decide) ?_
      refine hR _ _ _ _ rfl dX5_isCost_15 ?_
      first | exact n1_t hf | exact n0_f hf

abbrev rm_t_X5_hasTwoArguments : Room := ({ frames := 0, cells := 0, slots := 0, locals := 0 } : Room)
set_option maxHeartbeats 4000000 in
set_option maxRecDepth 100000 in
theorem t_X5_hasTwoArguments (l : Launch) (D : va_G) (ty : g_T3) (op : Int32) : g_P l yX5_hasTwoArguments wsX5_hasTwoArguments rm_t_X5_hasTwoArguments D ty g_X0 [.int op] [] (g_pi (fun r => r = nI (inB op (nI 4) (nI 9)).toNat)) := by
  refine g_ofPz (cc := cX5_hasTwoArguments) (nL := 1) (own := RX5) (by decide) rfl rfl g_X0_ok (Nat.le_of_ble_eq_true rfl) ?_
  intro p e s m args below meth c Q C hX hR
  refine g_lv (lv' := [(0, .int op)]) [0] rfl ?_
  have c0 := nI_toInt (n := 4) (by decide)
  have c1 := nI_toInt (n := 9) (by decide)
  refine g_iload_n C dX5_hasTwoArguments_0 0 rfl rfl ?_
  refine g_iconst C dX5_hasTwoArguments_1 (v := (nI 4)) (by decide) ?_
  refine g_icmp_lt C dX5_hasTwoArguments_2 (tgt := 15) (by decide) (fun h2 => ?_) (fun h2 => ?_)
  · skip
    rw [nI_toInt (by omega)] at h2
    have hf : inB op (nI 4) (nI 9) = false := in_f (by omega)
    refine g_iconst C dX5_hasTwoArguments_15 (v := (nI 0)) (by decide) ?_
    refine hR _ _ _ _ rfl dX5_hasTwoArguments_16 ?_
    first | exact n1_t hf | exact n0_f hf
  · skip
    rw [nI_toInt (by omega)] at h2
    refine g_iload_n C dX5_hasTwoArguments_5 0 rfl rfl ?_
    refine g_bipush C dX5_hasTwoArguments_6 (v := (nI 10)) (by decide) ?_
    refine g_icmp_ge C dX5_hasTwoArguments_8 (tgt := 15) (by decide) (fun h8 => ?_) (fun h8 => ?_)
    · skip
      rw [nI_toInt (by omega)] at h8
      have hf : inB op (nI 4) (nI 9) = false := in_f (by omega)
      refine g_iconst C dX5_hasTwoArguments_15 (v := (nI 0)) (by decide) ?_
      refine hR _ _ _ _ rfl dX5_hasTwoArguments_16 ?_
      first | exact n1_t hf | exact n0_f hf
    · skip
      rw [nI_toInt (by omega)] at h8
      have hf : inB op (nI 4) (nI 9) = true := in_t (by omega) (by omega)
      refine g_iconst C dX5_hasTwoArguments_11 (v := (nI 1)) (by decide) ?_
      refine g_goto C dX5_hasTwoArguments_12 (tgt := 16) (by decide) ?_
      refine hR _ _ _ _ rfl dX5_hasTwoArguments_16 ?_
      first | exact n1_t hf | exact n0_f hf

abbrev rm_t_X4_isDigit : Room := ({ frames := 0, cells := 0, slots := 0, locals := 0 } : Room)
set_option maxHeartbeats 4000000 in
set_option maxRecDepth 100000 in
theorem t_X4_isDigit (l : Launch) (D : va_G) (ty : g_T3) (op : Int32) : g_P l yX4_isDigit wsX4_isDigit rm_t_X4_isDigit D ty g_X0 [.int op] [] (g_pi (fun r => r = nI (inB op (nI 48) (nI 57)).toNat)) := by
  refine g_ofPz (cc := cX4_isDigit) (nL := 1) (own := RX4) (by decide) rfl rfl g_X0_ok (Nat.le_of_ble_eq_true rfl) ?_
  intro p e s m args below meth c Q C hX hR
  refine g_lv (lv' := [(0, .int op)]) [0] rfl ?_
  have c0 := nI_toInt (n := 48) (by decide)
  have c1 := nI_toInt (n := 57) (by decide)
  refine g_iload_n C dX4_isDigit_0 0 rfl rfl ?_
  refine g_bipush C dX4_isDigit_1 (v := (nI 48)) (by decide) ?_
  refine g_icmp_lt C dX4_isDigit_3 (tgt := 16) (by decide) (fun h3 => ?_) (fun h3 => ?_)
  · skip
    rw [nI_toInt (by omega)] at h3
    have hf : inB op (nI 48) (nI 57) = false := in_f (by omega)
    refine g_iconst C dX4_isDigit_16 (v := (nI 0)) (by decide) ?_
    refine hR _ _ _ _ rfl dX4_isDigit_17 ?_
    first | exact n1_t hf | exact n0_f hf
  · skip
    rw [nI_toInt (by omega)] at h3
    refine g_iload_n C dX4_isDigit_6 0 rfl rfl ?_
    refine g_bipush C dX4_isDigit_7 (v := (nI 57)) (by decide) ?_
    refine g_icmp_gt C dX4_isDigit_9 (tgt := 16) (by decide) (fun h9 => ?_) (fun h9 => ?_)
    · skip
      rw [nI_toInt (by omega)] at h9
      have hf : inB op (nI 48) (nI 57) = false := in_f (by omega)
      refine g_iconst C dX4_isDigit_16 (v := (nI 0)) (by decide) ?_
      refine hR _ _ _ _ rfl dX4_isDigit_17 ?_
      first | exact n1_t hf | exact n0_f hf
    · skip
      rw [nI_toInt (by omega)] at h9
      have hf : inB op (nI 48) (nI 57) = true := in_t (by omega) (by omega)
      refine g_iconst C dX4_isDigit_12 (v := (nI 1)) (by decide) ?_
      refine g_goto C dX4_isDigit_13 (tgt := 17) (by decide) ?_
      refine hR _ _ _ _ rfl dX4_isDigit_17 ?_
      first | exact n1_t hf | exact n0_f hf

abbrev rm_t_X5_added : Room := ({ frames := 0, cells := 0, slots := 0, locals := 0 } : Room)
set_option maxHeartbeats 4000000 in
set_option maxRecDepth 100000 in
theorem t_X5_added (l : Launch) (D : va_G) (ty : g_T3) (d x : Int64) : g_P l yX5_added wsX5_added rm_t_X5_added D ty g_X0 [.long d, .long x] [] (g_pl (fun r => r = d * 31 + x)) := by
  refine g_ofPl (cc := cX5_added) (nL := 4) (own := RX5) (by decide) rfl rfl g_X0_ok (Nat.le_of_ble_eq_true rfl) ?_
  intro p e s m args below meth c Q C hX hR
  refine g_lv (lv' := [(0, .long d), (2, .long x)]) [0, 1] rfl ?_
  refine g_lload_n C dX5_added_0 0 rfl rfl ?_
  refine g_ldc2 C (v := (31)) 1 rfl dX5_added_1 ?_
  refine g_lmul C dX5_added_4 (v := (d * (31))) rfl ?_
  refine g_lload_n C dX5_added_5 1 rfl rfl ?_
  refine g_ladd C dX5_added_6 (v := ((d * (31)) + x)) rfl ?_
  exact hR _ _ _ _ dX5_added_7 (rfl)

abbrev rm_t_X5_countOn : Room := ({ frames := 0, cells := 0, slots := 0, locals := 0 } : Room)
set_option maxHeartbeats 4000000 in
set_option maxRecDepth 100000 in
theorem t_X5_countOn (l : Launch) (D : va_G) (ty : g_T3) (a n : Nat) (b : Nat → Bool) (hn : n < 2 ^ 30) : g_P l yX5_countOn wsX5_countOn rm_t_X5_countOn D ty g_X0 [.ref a] [(a, .inl (ty.2.2, n, .inl (zB b)))] (g_pi (fun r => r = nI (ctB b n))) := by
  refine g_ofPi (cc := cX5_countOn) (nL := 6) (own := RX5) (by decide) rfl rfl g_X0_ok (Nat.le_of_ble_eq_true rfl) ?_
  intro p e s m args below meth c Q C hX hR
  refine g_lv (lv' := [(0, .ref a)]) [0] rfl ?_
  refine g_iconst C dX5_countOn_0 (v := (nI 0)) (by decide) ?_
  refine g_istore_n C dX5_countOn_1 rfl (by decide) (lv' := [(1, .int (nI 0)), (0, .ref a)]) rfl ?_
  refine g_aload_n C dX5_countOn_2 1 rfl rfl ?_
  refine g_astore_n C dX5_countOn_3 rfl (by decide) (lv' := [(2, .ref a), (1, .int (nI 0)), (0, .ref a)]) rfl ?_
  refine g_aload_n C dX5_countOn_4 0 rfl rfl ?_
  refine g_alen C (v := nI n) 0 rfl (t0 := 2) rfl rfl dX5_countOn_5 ?_
  refine g_istore_n C dX5_countOn_6 rfl (by decide) (lv' := [(3, .int (nI n)), (2, .ref a), (1, .int (nI 0)), (0, .ref a)]) rfl ?_
  refine g_iconst C dX5_countOn_7 (v := (nI 0)) (by decide) ?_
  refine g_istore C dX5_countOn_8 (by decide) (lv' := [(4, .int (nI 0)), (3, .int (nI n)), (2, .ref a), (1, .int (nI 0)), (0, .ref a)]) rfl ?_
  have L10 : ∀ (n9 : Nat) (i : Nat), n - i < n9 → (i ≤ n) → gG (g_IP D s [(a, .inl (ty.2.2, n, .inl (zB b)))]) p l e rm_t_X5_countOn s m args below meth c Q 6 0 0 10 [(4, .int (nI i)), (3, .int (nI n)), (1, .int (nI (ctB b i))), (2, .ref a)] [] [(a, .inl (ty.2.2, n, .inl (zB b)))] := by
    intro n9
    induction n9 with
    | zero => intro i hn; exact absurd hn (Nat.not_lt_zero _)
    | succ n9 ih10 =>
      intro i hn10 hi
      have hb := bt_lt (b i)
      have hc := ctB_le b i
      refine g_iload C dX5_countOn_10 0 rfl ?_
      refine g_iload_n C dX5_countOn_12 1 rfl rfl ?_
      refine g_icmp_geN C dX5_countOn_13 (tgt := 41) (by decide) (by omega) (by omega) (fun h13 => ?_) (fun h13 => ?_)
      · skip
        have hin : i = n := by omega
        refine g_iload_n C dX5_countOn_41 2 rfl rfl ?_
        exact hR _ _ _ _ dX5_countOn_42 (by rw [hin])
      · skip
        refine g_aload_n C dX5_countOn_16 3 rfl rfl ?_
        refine g_iload C dX5_countOn_17 0 rfl ?_
        refine g_zald C (v := (nI ((b i).toNat))) 0 rfl (by omega) (by omega) rfl dX5_countOn_19 ?_
        refine g_istore C dX5_countOn_20 (by decide) (lv' := [(5, .int (nI ((b i).toNat))), (4, .int (nI i)), (3, .int (nI n)), (1, .int (nI (ctB b i))), (2, .ref a)]) rfl ?_
        refine g_iload_n C dX5_countOn_22 3 rfl rfl ?_
        refine g_iload C dX5_countOn_23 0 rfl ?_
        refine g_if_eqN C dX5_countOn_25 (tgt := 32) (by decide) (by omega) (fun h25 => ?_) (fun h25 => ?_)
        · skip
          refine g_iconst C dX5_countOn_32 (v := (nI 0)) (by decide) ?_
          refine g_iadd C dX5_countOn_33 (v := (nI (ctB b (i + 1)))) (by rw [nI_add]; show _ = nI (ctB b i + (b i).toNat); congr 1; omega) ?_
          refine g_istore_n C dX5_countOn_34 rfl (by decide) (lv' := [(1, .int (nI (ctB b (i + 1)))), (5, .int (nI ((b i).toNat))), (4, .int (nI i)), (3, .int (nI n)), (2, .ref a)]) rfl ?_
          refine g_iinc C dX5_countOn_35 2 rfl (v := (nI (i + 1))) (nI_1 i) (by decide) (lv' := [(4, .int (nI (i + 1))), (1, .int (nI (ctB b (i + 1)))), (5, .int (nI ((b i).toNat))), (3, .int (nI n)), (2, .ref a)]) rfl ?_
          refine g_goto C dX5_countOn_38 (tgt := 10) (by decide) ?_
          refine g_lv [0, 3, 1, 4] rfl ?_
          exact ih10 (i + 1) (by omega) (by omega)
        · skip
          refine g_iconst C dX5_countOn_28 (v := (nI 1)) (by decide) ?_
          refine g_goto C dX5_countOn_29 (tgt := 33) (by decide) ?_
          refine g_iadd C dX5_countOn_33 (v := (nI (ctB b (i + 1)))) (by rw [nI_add]; show _ = nI (ctB b i + (b i).toNat); congr 1; omega) ?_
          refine g_istore_n C dX5_countOn_34 rfl (by decide) (lv' := [(1, .int (nI (ctB b (i + 1)))), (5, .int (nI ((b i).toNat))), (4, .int (nI i)), (3, .int (nI n)), (2, .ref a)]) rfl ?_
          refine g_iinc C dX5_countOn_35 2 rfl (v := (nI (i + 1))) (nI_1 i) (by decide) (lv' := [(4, .int (nI (i + 1))), (1, .int (nI (ctB b (i + 1)))), (5, .int (nI ((b i).toNat))), (3, .int (nI n)), (2, .ref a)]) rfl ?_
          refine g_goto C dX5_countOn_38 (tgt := 10) (by decide) ?_
          refine g_lv [0, 3, 1, 4] rfl ?_
          exact ih10 (i + 1) (by omega) (by omega)
  refine g_lv [0, 1, 3, 2] rfl ?_
  exact L10 _ 0 (Nat.lt_succ_self _) (by omega)

abbrev rm_t_X6_count : Room := ({ frames := 0, cells := 0, slots := 0, locals := 0 } : Room)
set_option maxHeartbeats 4000000 in
set_option maxRecDepth 100000 in
theorem t_X6_count (l : Launch) (D : va_G) (ty : g_T3) (a n : Nat) (b : Nat → Bool) (hn : n < 2 ^ 30) : g_P l yX6_count wsX6_count rm_t_X6_count D ty g_X0 [.ref a] [(a, .inl (ty.2.2, n, .inl (zB b)))] (g_pi (fun r => r = nI (ctB b n))) := by
  refine g_ofPi (cc := cX6_count) (nL := 6) (own := RX6) (by decide) rfl rfl g_X0_ok (Nat.le_of_ble_eq_true rfl) ?_
  intro p e s m args below meth c Q C hX hR
  refine g_lv (lv' := [(0, .ref a)]) [0] rfl ?_
  refine g_iconst C dX6_count_0 (v := (nI 0)) (by decide) ?_
  refine g_istore_n C dX6_count_1 rfl (by decide) (lv' := [(1, .int (nI 0)), (0, .ref a)]) rfl ?_
  refine g_aload_n C dX6_count_2 1 rfl rfl ?_
  refine g_astore_n C dX6_count_3 rfl (by decide) (lv' := [(2, .ref a), (1, .int (nI 0)), (0, .ref a)]) rfl ?_
  refine g_aload_n C dX6_count_4 0 rfl rfl ?_
  refine g_alen C (v := nI n) 0 rfl (t0 := 2) rfl rfl dX6_count_5 ?_
  refine g_istore_n C dX6_count_6 rfl (by decide) (lv' := [(3, .int (nI n)), (2, .ref a), (1, .int (nI 0)), (0, .ref a)]) rfl ?_
  refine g_iconst C dX6_count_7 (v := (nI 0)) (by decide) ?_
  refine g_istore C dX6_count_8 (by decide) (lv' := [(4, .int (nI 0)), (3, .int (nI n)), (2, .ref a), (1, .int (nI 0)), (0, .ref a)]) rfl ?_
  have L10 : ∀ (n9 : Nat) (i : Nat), n - i < n9 → (i ≤ n) → gG (g_IP D s [(a, .inl (ty.2.2, n, .inl (zB b)))]) p l e rm_t_X6_count s m args below meth c Q 6 0 0 10 [(4, .int (nI i)), (3, .int (nI n)), (1, .int (nI (ctB b i))), (2, .ref a)] [] [(a, .inl (ty.2.2, n, .inl (zB b)))] := by
    intro n9
    induction n9 with
    | zero => intro i hn; exact absurd hn (Nat.not_lt_zero _)
    | succ n9 ih10 =>
      intro i hn10 hi
      have hb := bt_lt (b i)
      have hc := ctB_le b i
      refine g_iload C dX6_count_10 0 rfl ?_
      refine g_iload_n C dX6_count_12 1 rfl rfl ?_
      refine g_icmp_geN C dX6_count_13 (tgt := 41) (by decide) (by omega) (by omega) (fun h13 => ?_) (fun h13 => ?_)
      · skip
        have hin : i = n := by omega
        refine g_iload_n C dX6_count_41 2 rfl rfl ?_
        exact hR _ _ _ _ dX6_count_42 (by rw [hin])
      · skip
        refine g_aload_n C dX6_count_16 3 rfl rfl ?_
        refine g_iload C dX6_count_17 0 rfl ?_
        refine g_zald C (v := (nI ((b i).toNat))) 0 rfl (by omega) (by omega) rfl dX6_count_19 ?_
        refine g_istore C dX6_count_20 (by decide) (lv' := [(5, .int (nI ((b i).toNat))), (4, .int (nI i)), (3, .int (nI n)), (1, .int (nI (ctB b i))), (2, .ref a)]) rfl ?_
        refine g_iload_n C dX6_count_22 3 rfl rfl ?_
        refine g_iload C dX6_count_23 0 rfl ?_
        refine g_if_eqN C dX6_count_25 (tgt := 32) (by decide) (by omega) (fun h25 => ?_) (fun h25 => ?_)
        · skip
          refine g_iconst C dX6_count_32 (v := (nI 0)) (by decide) ?_
          refine g_iadd C dX6_count_33 (v := (nI (ctB b (i + 1)))) (by rw [nI_add]; show _ = nI (ctB b i + (b i).toNat); congr 1; omega) ?_
          refine g_istore_n C dX6_count_34 rfl (by decide) (lv' := [(1, .int (nI (ctB b (i + 1)))), (5, .int (nI ((b i).toNat))), (4, .int (nI i)), (3, .int (nI n)), (2, .ref a)]) rfl ?_
          refine g_iinc C dX6_count_35 2 rfl (v := (nI (i + 1))) (nI_1 i) (by decide) (lv' := [(4, .int (nI (i + 1))), (1, .int (nI (ctB b (i + 1)))), (5, .int (nI ((b i).toNat))), (3, .int (nI n)), (2, .ref a)]) rfl ?_
          refine g_goto C dX6_count_38 (tgt := 10) (by decide) ?_
          refine g_lv [0, 3, 1, 4] rfl ?_
          exact ih10 (i + 1) (by omega) (by omega)
        · skip
          refine g_iconst C dX6_count_28 (v := (nI 1)) (by decide) ?_
          refine g_goto C dX6_count_29 (tgt := 33) (by decide) ?_
          refine g_iadd C dX6_count_33 (v := (nI (ctB b (i + 1)))) (by rw [nI_add]; show _ = nI (ctB b i + (b i).toNat); congr 1; omega) ?_
          refine g_istore_n C dX6_count_34 rfl (by decide) (lv' := [(1, .int (nI (ctB b (i + 1)))), (5, .int (nI ((b i).toNat))), (4, .int (nI i)), (3, .int (nI n)), (2, .ref a)]) rfl ?_
          refine g_iinc C dX6_count_35 2 rfl (v := (nI (i + 1))) (nI_1 i) (by decide) (lv' := [(4, .int (nI (i + 1))), (1, .int (nI (ctB b (i + 1)))), (5, .int (nI ((b i).toNat))), (3, .int (nI n)), (2, .ref a)]) rfl ?_
          refine g_goto C dX6_count_38 (tgt := 10) (by decide) ?_
          refine g_lv [0, 3, 1, 4] rfl ?_
          exact ih10 (i + 1) (by omega) (by omega)
  refine g_lv [0, 1, 3, 2] rfl ?_
  exact L10 _ 0 (Nat.lt_succ_self _) (by omega)

abbrev rm_t_X6_at : Room := ({ frames := 0, cells := 0, slots := 0, locals := 0 } : Room)
set_option maxHeartbeats 4000000 in
set_option maxRecDepth 100000 in
theorem t_X6_at (l : Launch) (D : va_G) (ty : g_T3) (f : Int64) (x : Nat) (hx : x < 16) : g_P l yX6_at wsX6_at rm_t_X6_at D ty g_X0 [.long f, .int (nI x)] [] (g_pi (fun r => r = nI (nib f x))) := by
  refine g_ofPi (cc := cX6_at) (nL := 3) (own := RX6) (by decide) rfl rfl g_X0_ok (Nat.le_of_ble_eq_true rfl) ?_
  intro p e s m args below meth c Q C hX hR
  refine g_lv (lv' := [(0, .long f), (2, .int (nI x))]) [0, 1] rfl ?_
  refine g_lload_n C dX6_at_0 0 rfl rfl ?_
  refine g_iconst C dX6_at_1 (v := (nI 4)) (by decide) ?_
  refine g_iload_n C dX6_at_2 1 rfl rfl ?_
  refine g_imul C dX6_at_3 (v := (nI (4 * x))) (pk_mul _ _) ?_
  refine g_lushr C dX6_at_4 (v := (j_ushr f (nI (4 * x)))) rfl ?_
  refine g_l2i C dX6_at_5 (v := (Int64.toInt32 (j_ushr f (nI (4 * x))))) rfl ?_
  refine g_bipush C dX6_at_6 (v := (nI 15)) (by decide) ?_
  refine g_iand C dX6_at_8 (v := ((Int64.toInt32 (j_ushr f (nI (4 * x)))) &&& (nI 15))) rfl ?_
  exact hR _ _ _ _ dX6_at_9 (v_at f hx)

abbrev rm_t_X6_constant : Room := ({ frames := 0, cells := 0, slots := 0, locals := 0 } : Room)
set_option maxHeartbeats 4000000 in
set_option maxRecDepth 100000 in
theorem t_X6_constant (l : Launch) (D : va_G) (ty : g_T3) (v : Nat) (hv : v < 2 ^ 31) : g_P l yX6_constant wsX6_constant rm_t_X6_constant D ty g_X0 [.int (nI v)] [] (g_pl (fun r => r = kF v)) := by
  refine g_ofPl (cc := cX6_constant) (nL := 1) (own := RX6) (by decide) rfl rfl g_X0_ok (Nat.le_of_ble_eq_true rfl) ?_
  intro p e s m args below meth c Q C hX hR
  refine g_lv (lv' := [(0, .int (nI v))]) [0] rfl ?_
  refine g_ldc2 C (v := (1229782938247303441)) 1 rfl dX6_constant_0 ?_
  refine g_iload_n C dX6_constant_3 0 rfl rfl ?_
  refine g_i2l C dX6_constant_4 (v := (lN v)) (nI_l hv) ?_
  refine g_lmul C dX6_constant_5 (v := ((1229782938247303441) * (lN v))) rfl ?_
  exact hR _ _ _ _ dX6_constant_6 ((lN_mul 1229782938247303441 v).trans (by rw [Nat.mul_comm]; rfl))

abbrev rm_t_X6_reckon : Room := ({ frames := 0, cells := 0, slots := 0, locals := 0 } : Room)
set_option maxHeartbeats 4000000 in
set_option maxRecDepth 100000 in
theorem t_X6_reckon (l : Launch) (D : va_G) (ty : g_T3) (op v w : Nat) (hop : op < 10) (hv : v < 16) (hw : w < 16) : g_P l yX6_reckon wsX6_reckon rm_t_X6_reckon D ty g_X0 [.int (nI op), .int (nI v), .int (nI w)] [] (g_pi (fun r => r = nI (rek op v w))) := by
  refine g_ofPi (cc := cX6_reckon) (nL := 3) (own := RX6) (by decide) rfl rfl g_X0_ok (Nat.le_of_ble_eq_true rfl) ?_
  intro p e s m args below meth c Q C hX hR
  refine g_lv (lv' := [(0, .int (nI op)), (1, .int (nI v)), (2, .int (nI w))]) [0, 1, 2] rfl ?_
  refine g_iload_n C dX6_reckon_0 0 rfl rfl ?_
  rcases (show op = 0 ∨ op = 1 ∨ op = 2 ∨ op = 3 ∨ op = 4 ∨ op = 5 ∨ op = 6 ∨ op = 7 ∨ op = 8 ∨ op = 9 by omega) with h | h | h | h | h | h | h | h | h | h
  · skip
    obtain rfl : op = 0 := by omega
    skip
    refine g_tableIn C dX6_reckon_1 (by decide) (by decide) (off := 51) (by decide) (tgt := 52) (by decide) ?_
    refine g_bipush C dX6_reckon_52 (v := (nI 15)) (by decide) ?_
    refine g_iload_n C dX6_reckon_54 1 rfl rfl ?_
    refine g_isub C dX6_reckon_55 (v := (nI (15 - v))) (pk_sub (by omega)) ?_
    exact hR _ _ _ _ dX6_reckon_56 (rfl)
  · skip
    obtain rfl : op = 1 := by omega
    skip
    refine g_tableIn C dX6_reckon_1 (by decide) (by decide) (off := 56) (by decide) (tgt := 57) (by decide) ?_
    refine g_bipush C dX6_reckon_57 (v := (nI 16)) (by decide) ?_
    refine g_iload_n C dX6_reckon_59 1 rfl rfl ?_
    refine g_isub C dX6_reckon_60 (v := (nI (16 - v))) (pk_sub (by omega)) ?_
    exact hR _ _ _ _ dX6_reckon_61 (rfl)
  · skip
    obtain rfl : op = 2 := by omega
    skip
    refine g_tableIn C dX6_reckon_1 (by decide) (by decide) (off := 61) (by decide) (tgt := 62) (by decide) ?_
    refine g_iconst C dX6_reckon_62 (v := (nI 2)) (by decide) ?_
    refine g_iload_n C dX6_reckon_63 1 rfl rfl ?_
    refine g_imul C dX6_reckon_64 (v := (nI (2 * v))) (pk_mul _ _) ?_
    exact hR _ _ _ _ dX6_reckon_65 (rfl)
  · skip
    obtain rfl : op = 3 := by omega
    skip
    refine g_tableIn C dX6_reckon_1 (by decide) (by decide) (off := 65) (by decide) (tgt := 66) (by decide) ?_
    refine g_iload_n C dX6_reckon_66 1 rfl rfl ?_
    refine g_iconst C dX6_reckon_67 (v := (nI 2)) (by decide) ?_
    refine g_idiv C dX6_reckon_68 (by decide) (v := (nI (v / 2))) (pk_div (by omega) (by decide) (by decide)) ?_
    exact hR _ _ _ _ dX6_reckon_69 (rfl)
  · skip
    obtain rfl : op = 4 := by omega
    skip
    refine g_tableIn C dX6_reckon_1 (by decide) (by decide) (off := 69) (by decide) (tgt := 70) (by decide) ?_
    refine g_iload_n C dX6_reckon_70 1 rfl rfl ?_
    refine g_iload_n C dX6_reckon_71 2 rfl rfl ?_
    refine g_iand C dX6_reckon_72 (v := (nI (v &&& w))) (niand _ _) ?_
    exact hR _ _ _ _ dX6_reckon_73 (rfl)
  · skip
    obtain rfl : op = 5 := by omega
    skip
    refine g_tableIn C dX6_reckon_1 (by decide) (by decide) (off := 73) (by decide) (tgt := 74) (by decide) ?_
    refine g_iload_n C dX6_reckon_74 1 rfl rfl ?_
    refine g_iload_n C dX6_reckon_75 2 rfl rfl ?_
    refine g_ior C dX6_reckon_76 (v := (nI (v ||| w))) (nior _ _) ?_
    exact hR _ _ _ _ dX6_reckon_77 (rfl)
  · skip
    obtain rfl : op = 6 := by omega
    skip
    refine g_tableIn C dX6_reckon_1 (by decide) (by decide) (off := 77) (by decide) (tgt := 78) (by decide) ?_
    refine g_iload_n C dX6_reckon_78 1 rfl rfl ?_
    refine g_iload_n C dX6_reckon_79 2 rfl rfl ?_
    refine g_ixor C dX6_reckon_80 (v := (nI (v ^^^ w))) (nixor _ _) ?_
    exact hR _ _ _ _ dX6_reckon_81 (rfl)
  · skip
    obtain rfl : op = 7 := by omega
    skip
    refine g_tableIn C dX6_reckon_1 (by decide) (by decide) (off := 81) (by decide) (tgt := 82) (by decide) ?_
    refine g_iload_n C dX6_reckon_82 1 rfl rfl ?_
    refine g_iload_n C dX6_reckon_83 2 rfl rfl ?_
    refine g_iadd C dX6_reckon_84 (v := (nI (v + w))) (nI_add _ _) ?_
    exact hR _ _ _ _ dX6_reckon_85 (rfl)
  · skip
    obtain rfl : op = 8 := by omega
    skip
    refine g_tableIn C dX6_reckon_1 (by decide) (by decide) (off := 85) (by decide) (tgt := 86) (by decide) ?_
    refine g_bipush C dX6_reckon_86 (v := (nI 16)) (by decide) ?_
    refine g_iload_n C dX6_reckon_88 1 rfl rfl ?_
    refine g_iadd C dX6_reckon_89 (v := (nI (16 + v))) (nI_add _ _) ?_
    refine g_iload_n C dX6_reckon_90 2 rfl rfl ?_
    refine g_isub C dX6_reckon_91 (v := (nI ((16 + v) - w))) (pk_sub (by omega)) ?_
    exact hR _ _ _ _ dX6_reckon_92 (rfl)
  · skip
    obtain rfl : op = 9 := by omega
    skip
    refine g_tableOut C dX6_reckon_1 (by decide) (tgt := 93) (by decide) ?_
    refine g_iload_n C dX6_reckon_93 1 rfl rfl ?_
    refine g_iload_n C dX6_reckon_94 2 rfl rfl ?_
    refine g_imul C dX6_reckon_95 (v := (nI (v * w))) (pk_mul _ _) ?_
    exact hR _ _ _ _ dX6_reckon_96 (rfl)

abbrev rm_t_X6_made : Room := ({ frames := 1, cells := 0, slots := 0, locals := 22 } : Room)
set_option maxHeartbeats 4000000 in
set_option maxRecDepth 100000 in
theorem t_X6_made (l : Launch) (D : va_G) (ty : g_T3) (op : Nat) (hop : op < 10) (f g : Int64) : g_P l yX6_made wsX6_made rm_t_X6_made D ty g_X0 [.int (nI op), .long f, .long g] [] (g_pl (fun r => r = mdN op f g 16)) := by
  refine g_ofPl (cc := cX6_made) (nL := 8) (own := RX6) (by decide) rfl rfl g_X0_ok (Nat.le_of_ble_eq_true rfl) ?_
  intro p e s m args below meth c Q C hX hR
  refine g_lv (lv' := [(0, .int (nI op)), (1, .long f), (3, .long g)]) [0, 1, 2] rfl ?_
  refine g_lconst C dX6_made_0 (v := 0) (by decide) ?_
  refine g_lstore C dX6_made_1 (by decide) (lv' := [(5, .long 0), (0, .int (nI op)), (1, .long f), (3, .long g)]) rfl ?_
  refine g_iconst C dX6_made_3 (v := (nI 0)) (by decide) ?_
  refine g_istore C dX6_made_4 (by decide) (lv' := [(7, .int (nI 0)), (5, .long 0), (0, .int (nI op)), (1, .long f), (3, .long g)]) rfl ?_
  have L6 : ∀ (n9 : Nat) (i : Nat), 16 - i < n9 → (i ≤ 16) → gG (g_IP D s []) p l e rm_t_X6_made s m args below meth c Q 8 0 0 6 [(7, .int (nI i)), (5, .long (mdN op f g i)), (0, .int (nI op)), (1, .long f), (3, .long g)] [] [] := by
    intro n9
    induction n9 with
    | zero => intro i hn; exact absurd hn (Nat.not_lt_zero _)
    | succ n9 ih6 =>
      intro i hn6 hi
      refine g_iload C dX6_made_6 0 rfl ?_
      refine g_bipush C dX6_made_8 (v := (nI 16)) (by decide) ?_
      refine g_icmp_geN C dX6_made_10 (tgt := 49) (by decide) (by omega) (by omega) (fun h10 => ?_) (fun h10 => ?_)
      · skip
        obtain rfl : i = 16 := by omega
        refine g_lload C dX6_made_49 1 rfl ?_
        exact hR _ _ _ _ dX6_made_51 (rfl)
      · skip
        refine g_lload C dX6_made_13 1 rfl ?_
        refine g_iload_n C dX6_made_15 2 rfl rfl ?_
        refine g_lload_n C dX6_made_16 3 rfl rfl ?_
        refine g_iload C dX6_made_17 0 rfl ?_
        refine g_callPS C ⟨g_X0_ok, trivial⟩ (t_X6_at l D ty f i (by omega)) rfl gX6_made_X6_at 2 (by decide +kernel) rfl ⟨rfl, rfl⟩ ⟨Nat.le_of_ble_eq_true rfl, Nat.le_of_ble_eq_true rfl⟩ (rest := [.int (nI op), .long (mdN op f g i)]) [] rfl (Nat.le_of_ble_eq_true rfl) dX6_made_19 ⟨Nat.le_of_ble_eq_true rfl, Nat.le_of_ble_eq_true rfl⟩ rfl (g_ki (fun r hr => ?_))
        subst hr
        have := nib_lt f i
        refine g_lload_n C dX6_made_22 4 rfl rfl ?_
        refine g_iload C dX6_made_23 0 rfl ?_
        refine g_callPS C ⟨g_X0_ok, trivial⟩ (t_X6_at l D ty g i (by omega)) rfl gX6_made_X6_at 2 (by decide +kernel) rfl ⟨rfl, rfl⟩ ⟨Nat.le_of_ble_eq_true rfl, Nat.le_of_ble_eq_true rfl⟩ (rest := [.int (nI (nib f i)), .int (nI op), .long (mdN op f g i)]) [] rfl (Nat.le_of_ble_eq_true rfl) dX6_made_25 ⟨Nat.le_of_ble_eq_true rfl, Nat.le_of_ble_eq_true rfl⟩ rfl (g_ki (fun r hr => ?_))
        subst hr
        have := nib_lt g i
        refine g_callPS C ⟨g_X0_ok, trivial⟩ (t_X6_reckon l D ty op (nib f i) (nib g i) (by omega) (by omega) (by omega)) rfl gX6_made_X6_reckon 3 (by decide +kernel) rfl ⟨rfl, rfl⟩ ⟨Nat.le_of_ble_eq_true rfl, Nat.le_of_ble_eq_true rfl⟩ (rest := [.long (mdN op f g i)]) [] rfl (Nat.le_of_ble_eq_true rfl) dX6_made_28 ⟨Nat.le_of_ble_eq_true rfl, Nat.le_of_ble_eq_true rfl⟩ rfl (g_ki (fun r hr => ?_))
        subst hr
        have : rek op (nib f i) (nib g i) < 256 := rek_lt (by omega) (by omega)
        refine g_bipush C dX6_made_31 (v := (nI 16)) (by decide) ?_
        refine g_irem C dX6_made_33 (by decide) (v := (nI (rek op (nib f i) (nib g i) % 16))) (pk_rem (by omega) (by decide) (by decide)) ?_
        refine g_i2l C dX6_made_34 (v := (Int32.toInt64 (nI (rek op (nib f i) (nib g i) % 16)))) rfl ?_
        refine g_iconst C dX6_made_35 (v := (nI 4)) (by decide) ?_
        refine g_iload C dX6_made_36 0 rfl ?_
        refine g_imul C dX6_made_38 (v := (nI (4 * i))) (pk_mul _ _) ?_
        refine g_lshl C dX6_made_39 (v := (j_shl (Int32.toInt64 (nI (rek op (nib f i) (nib g i) % 16))) (nI (4 * i)))) rfl ?_
        refine g_lor C dX6_made_40 (v := (mdN op f g (i + 1))) rfl ?_
        refine g_lstore C dX6_made_41 (by decide) (lv' := [(5, .long (mdN op f g (i + 1))), (7, .int (nI i)), (0, .int (nI op)), (1, .long f), (3, .long g)]) rfl ?_
        refine g_iinc C dX6_made_43 1 rfl (v := (nI (i + 1))) (nI_1 i) (by decide) (lv' := [(7, .int (nI (i + 1))), (5, .long (mdN op f g (i + 1))), (0, .int (nI op)), (1, .long f), (3, .long g)]) rfl ?_
        refine g_goto C dX6_made_46 (tgt := 6) (by decide) ?_
        exact ih6 (i + 1) (by omega) (by omega)
  exact L6 _ 0 (Nat.lt_succ_self _) (by omega)

abbrev rm_t_X6_values : Room := ({ frames := 1, cells := 0, slots := 0, locals := 22 } : Room)
set_option maxHeartbeats 4000000 in
set_option maxRecDepth 100000 in
theorem t_X6_values (l : Launch) (D : va_G) (ty : g_T3) (f : Int64) : g_P l yX6_values wsX6_values rm_t_X6_values D ty g_X0 [.long f] [] (g_pi (fun r => r = ibc (nI (imF f 65535)))) := by
  refine g_ofPi (cc := cX6_values) (nL := 4) (own := RX6) (by decide) rfl rfl g_X0_ok (Nat.le_of_ble_eq_true rfl) ?_
  intro p e s m args below meth c Q C hX hR
  refine g_lv (lv' := [(0, .long f)]) [0] rfl ?_
  refine g_iconst C dX6_values_0 (v := (nI 0)) (by decide) ?_
  refine g_istore_n C dX6_values_1 rfl (by decide) (lv' := [(2, .int (nI 0)), (0, .long f)]) rfl ?_
  refine g_iconst C dX6_values_2 (v := (nI 0)) (by decide) ?_
  refine g_istore_n C dX6_values_3 rfl (by decide) (lv' := [(3, .int (nI 0)), (2, .int (nI 0)), (0, .long f)]) rfl ?_
  have L4 : ∀ (n9 : Nat) (i : Nat), 16 - i < n9 → (i ≤ 16) → gG (g_IP D s []) p l e rm_t_X6_values s m args below meth c Q 4 0 0 4 [(3, .int (nI i)), (2, .int (nI (imN f 65535 i))), (0, .long f)] [] [] := by
    intro n9
    induction n9 with
    | zero => intro i hn; exact absurd hn (Nat.not_lt_zero _)
    | succ n9 ih4 =>
      intro i hn4 hi
      refine g_iload_n C dX6_values_4 0 rfl rfl ?_
      refine g_bipush C dX6_values_5 (v := (nI 16)) (by decide) ?_
      refine g_icmp_geN C dX6_values_7 (tgt := 26) (by decide) (by omega) (by omega) (fun h7 => ?_) (fun h7 => ?_)
      · skip
        have hi16 : i = 16 := by omega
        have := imN_lt f 65535 i
        refine g_iload_n C dX6_values_26 1 rfl rfl ?_
        refine g_callPS C ⟨g_X0_ok, trivial⟩ (t_J6_bitCount_0f7a4 l D ty (nI (imN f 65535 i))) rfl gX6_values_J6_bitCount_0f7a4 1 (by decide +kernel) rfl ⟨rfl, rfl⟩ ⟨Nat.le_of_ble_eq_true rfl, Nat.le_of_ble_eq_true rfl⟩ (rest := []) [] rfl (Nat.le_of_ble_eq_true rfl) dX6_values_27 ⟨Nat.le_of_ble_eq_true rfl, Nat.le_of_ble_eq_true rfl⟩ rfl (g_ki (fun r hr => ?_))
        subst hr
        exact hR _ _ _ _ dX6_values_30 (by rw [hi16]; rfl)
      · skip
        refine g_iload_n C dX6_values_10 1 rfl rfl ?_
        refine g_iconst C dX6_values_11 (v := (nI 1)) (by decide) ?_
        refine g_lload_n C dX6_values_12 2 rfl rfl ?_
        refine g_iload_n C dX6_values_13 0 rfl rfl ?_
        refine g_callPS C ⟨g_X0_ok, trivial⟩ (t_X6_at l D ty f i (by omega)) rfl gX6_values_X6_at 2 (by decide +kernel) rfl ⟨rfl, rfl⟩ ⟨Nat.le_of_ble_eq_true rfl, Nat.le_of_ble_eq_true rfl⟩ (rest := [.int (nI 1), .int (nI (imN f 65535 i))]) [] rfl (Nat.le_of_ble_eq_true rfl) dX6_values_14 ⟨Nat.le_of_ble_eq_true rfl, Nat.le_of_ble_eq_true rfl⟩ rfl (g_ki (fun r hr => ?_))
        subst hr
        have := nib_lt f i
        refine g_ishl C dX6_values_17 (v := (nI (2 ^ (nib f i)))) (ni_shl1 (by omega)) ?_
        refine g_ior C dX6_values_18 (v := (nI (imN f 65535 (i + 1)))) (by rw [nior, imN_1 (all_1 i (by omega))]) ?_
        refine g_istore_n C dX6_values_19 rfl (by decide) (lv' := [(2, .int (nI (imN f 65535 (i + 1)))), (3, .int (nI i)), (0, .long f)]) rfl ?_
        refine g_iinc C dX6_values_20 1 rfl (v := (nI (i + 1))) (nI_1 i) (by decide) (lv' := [(3, .int (nI (i + 1))), (2, .int (nI (imN f 65535 (i + 1)))), (0, .long f)]) rfl ?_
        refine g_goto C dX6_values_23 (tgt := 4) (by decide) ?_
        exact ih4 (i + 1) (by omega) (by omega)
  exact L4 _ 0 (Nat.lt_succ_self _) (by omega)

abbrev rm_t_X6_through : Room := ({ frames := 1, cells := 0, slots := 0, locals := 22 } : Room)
set_option maxHeartbeats 4000000 in
set_option maxRecDepth 100000 in
theorem t_X6_through (l : Launch) (D : va_G) (ty : g_T3) (f : Int64) (sv : Nat) (hs : sv < 65536) : g_P l yX6_through wsX6_through rm_t_X6_through D ty g_X0 [.long f, .int (nI sv)] [] (g_pi (fun r => r = nI (imF f sv))) := by
  refine g_ofPi (cc := cX6_through) (nL := 5) (own := RX6) (by decide) rfl rfl g_X0_ok (Nat.le_of_ble_eq_true rfl) ?_
  intro p e s m args below meth c Q C hX hR
  refine g_lv (lv' := [(0, .long f), (2, .int (nI sv))]) [0, 1] rfl ?_
  refine g_iconst C dX6_through_0 (v := (nI 0)) (by decide) ?_
  refine g_istore_n C dX6_through_1 rfl (by decide) (lv' := [(3, .int (nI 0)), (0, .long f), (2, .int (nI sv))]) rfl ?_
  refine g_iconst C dX6_through_2 (v := (nI 0)) (by decide) ?_
  refine g_istore C dX6_through_3 (by decide) (lv' := [(4, .int (nI 0)), (3, .int (nI 0)), (0, .long f), (2, .int (nI sv))]) rfl ?_
  have L5 : ∀ (n9 : Nat) (i v : Nat), 16 - i < n9 → (i ≤ 16) → (v = imN f sv i) → gG (g_IP D s []) p l e rm_t_X6_through s m args below meth c Q 5 0 0 5 [(4, .int (nI i)), (3, .int (nI v)), (0, .long f), (2, .int (nI sv))] [] [] := by
    intro n9
    induction n9 with
    | zero => intro i v hn; exact absurd hn (Nat.not_lt_zero _)
    | succ n9 ih5 =>
      intro i v hn5 hi hv
      refine g_iload C dX6_through_5 0 rfl ?_
      refine g_bipush C dX6_through_7 (v := (nI 16)) (by decide) ?_
      refine g_icmp_geN C dX6_through_9 (tgt := 39) (by decide) (by omega) (by omega) (fun h9 => ?_) (fun h9 => ?_)
      · skip
        obtain rfl : i = 16 := by omega
        subst hv
        refine g_iload_n C dX6_through_39 1 rfl rfl ?_
        exact hR _ _ _ _ dX6_through_40 (rfl)
      · skip
        refine g_iload_n C dX6_through_12 3 rfl rfl ?_
        refine g_iload C dX6_through_13 0 rfl ?_
        refine g_ishr C dX6_through_15 (v := (nI (sv / 2 ^ i))) (ni_shr (by omega) (by omega)) ?_
        refine g_iconst C dX6_through_16 (v := (nI 1)) (by decide) ?_
        refine g_iand C dX6_through_17 (v := (nI ((sv / 2 ^ i) % 2))) (ni_and1 _) ?_
        refine g_iconst C dX6_through_18 (v := (nI 1)) (by decide) ?_
        refine g_icmp_neN C dX6_through_19 (tgt := 33) (by decide) (by omega) (by omega) (fun h19 => ?_) (fun h19 => ?_)
        · skip
          refine g_iinc C dX6_through_33 0 rfl (v := (nI (i + 1))) (nI_1 i) (by decide) (lv' := [(4, .int (nI (i + 1))), (3, .int (nI v)), (0, .long f), (2, .int (nI sv))]) rfl ?_
          refine g_goto C dX6_through_36 (tgt := 5) (by decide) ?_
          exact ih5 (i + 1) _ (by omega) (by omega) (by rw [hv]; first | exact (imN_1 (by omega)).symm | exact (imN_0 (by omega)).symm)
        · skip
          refine g_iload_n C dX6_through_22 1 rfl rfl ?_
          refine g_iconst C dX6_through_23 (v := (nI 1)) (by decide) ?_
          refine g_lload_n C dX6_through_24 2 rfl rfl ?_
          refine g_iload C dX6_through_25 0 rfl ?_
          refine g_callPS C ⟨g_X0_ok, trivial⟩ (t_X6_at l D ty f i (by omega)) rfl gX6_through_X6_at 2 (by decide +kernel) rfl ⟨rfl, rfl⟩ ⟨Nat.le_of_ble_eq_true rfl, Nat.le_of_ble_eq_true rfl⟩ (rest := [.int (nI 1), .int (nI v)]) [] rfl (Nat.le_of_ble_eq_true rfl) dX6_through_27 ⟨Nat.le_of_ble_eq_true rfl, Nat.le_of_ble_eq_true rfl⟩ rfl (g_ki (fun r hr => ?_))
          subst hr
          have := nib_lt f i
          refine g_ishl C dX6_through_30 (v := (nI (2 ^ (nib f i)))) (ni_shl1 (by omega)) ?_
          refine g_ior C dX6_through_31 (v := (nI (v ||| (2 ^ (nib f i))))) (nior _ _) ?_
          refine g_istore_n C dX6_through_32 rfl (by decide) (lv' := [(3, .int (nI (v ||| (2 ^ (nib f i))))), (4, .int (nI i)), (0, .long f), (2, .int (nI sv))]) rfl ?_
          refine g_iinc C dX6_through_33 1 rfl (v := (nI (i + 1))) (nI_1 i) (by decide) (lv' := [(4, .int (nI (i + 1))), (3, .int (nI (v ||| (2 ^ (nib f i))))), (0, .long f), (2, .int (nI sv))]) rfl ?_
          refine g_goto C dX6_through_36 (tgt := 5) (by decide) ?_
          exact ih5 (i + 1) _ (by omega) (by omega) (by rw [hv]; first | exact (imN_1 (by omega)).symm | exact (imN_0 (by omega)).symm)
  exact L5 _ 0 0 (Nat.lt_succ_self _) (by omega) rfl

abbrev rm_t_X6_returning : Room := ({ frames := 2, cells := 0, slots := 0, locals := 46 } : Room)
set_option maxHeartbeats 4000000 in
set_option maxRecDepth 100000 in
theorem t_X6_returning (l : Launch) (D : va_G) (ty : g_T3) (f : Int64) : g_P l yX6_returning wsX6_returning rm_t_X6_returning D ty g_X0 [.long f] [] (g_pi (fun r => r = nI (itF f 16))) := by
  refine g_ofPi (cc := cX6_returning) (nL := 4) (own := RX6) (by decide) rfl rfl g_X0_ok (Nat.le_of_ble_eq_true rfl) ?_
  intro p e s m args below meth c Q C hX hR
  refine g_lv (lv' := [(0, .long f)]) [0] rfl ?_
  refine g_ldc C (v := (nI 65535)) 1 rfl dX6_returning_0 ?_
  refine g_istore_n C dX6_returning_2 rfl (by decide) (lv' := [(2, .int (nI 65535)), (0, .long f)]) rfl ?_
  refine g_iconst C dX6_returning_3 (v := (nI 0)) (by decide) ?_
  refine g_istore_n C dX6_returning_4 rfl (by decide) (lv' := [(3, .int (nI 0)), (2, .int (nI 65535)), (0, .long f)]) rfl ?_
  have L5 : ∀ (n9 : Nat) (i : Nat), 16 - i < n9 → (i ≤ 16) → gG (g_IP D s []) p l e rm_t_X6_returning s m args below meth c Q 4 0 0 5 [(3, .int (nI i)), (2, .int (nI (itF f i))), (0, .long f)] [] [] := by
    intro n9
    induction n9 with
    | zero => intro i hn; exact absurd hn (Nat.not_lt_zero _)
    | succ n9 ih5 =>
      intro i hn5 hi
      have := itF_lt f i
      refine g_iload_n C dX6_returning_5 0 rfl rfl ?_
      refine g_bipush C dX6_returning_6 (v := (nI 16)) (by decide) ?_
      refine g_icmp_geN C dX6_returning_8 (tgt := 23) (by decide) (by omega) (by omega) (fun h8 => ?_) (fun h8 => ?_)
      · skip
        obtain rfl : i = 16 := by omega
        refine g_iload_n C dX6_returning_23 1 rfl rfl ?_
        exact hR _ _ _ _ dX6_returning_24 (rfl)
      · skip
        refine g_lload_n C dX6_returning_11 2 rfl rfl ?_
        refine g_iload_n C dX6_returning_12 1 rfl rfl ?_
        refine g_callPS C ⟨g_X0_ok, trivial⟩ (t_X6_through l D ty f (itF f i) (by omega)) rfl gX6_returning_X6_through 2 (by decide +kernel) rfl ⟨rfl, rfl⟩ ⟨Nat.le_of_ble_eq_true rfl, Nat.le_of_ble_eq_true rfl⟩ (rest := []) [] rfl (Nat.le_of_ble_eq_true rfl) dX6_returning_13 ⟨Nat.le_of_ble_eq_true rfl, Nat.le_of_ble_eq_true rfl⟩ rfl (g_ki (fun r hr => ?_))
        subst hr
        have : imF f (itF f i) < 65536 := imN_lt _ _ 16
        refine g_istore_n C dX6_returning_16 rfl (by decide) (lv' := [(2, .int (nI (imF f (itF f i)))), (3, .int (nI i)), (0, .long f)]) rfl ?_
        refine g_iinc C dX6_returning_17 1 rfl (v := (nI (i + 1))) (nI_1 i) (by decide) (lv' := [(3, .int (nI (i + 1))), (2, .int (nI (imF f (itF f i)))), (0, .long f)]) rfl ?_
        refine g_goto C dX6_returning_20 (tgt := 5) (by decide) ?_
        exact ih5 (i + 1) (by omega) (by omega)
  exact L5 _ 0 (Nat.lt_succ_self _) (by omega)

abbrev rm_t_X6_tail : Room := ({ frames := 3, cells := 0, slots := 0, locals := 69 } : Room)
set_option maxHeartbeats 4000000 in
set_option maxRecDepth 100000 in
theorem t_X6_tail (l : Launch) (D : va_G) (ty : g_T3) (f : Int64) : g_P l yX6_tail wsX6_tail rm_t_X6_tail D ty g_X0 [.long f] [] (g_pi (fun r => ∃ n, r = nI n ∧ isStp f n)) := by
  refine g_ofPi (cc := cX6_tail) (nL := 4) (own := RX6) (by decide) rfl rfl g_X0_ok (Nat.le_of_ble_eq_true rfl) ?_
  intro p e s m args below meth c Q C hX hR
  refine g_lv (lv' := [(0, .long f)]) [0] rfl ?_
  refine g_ldc C (v := (nI 65535)) 1 rfl dX6_tail_0 ?_
  refine g_istore_n C dX6_tail_2 rfl (by decide) (lv' := [(2, .int (nI 65535)), (0, .long f)]) rfl ?_
  refine g_iconst C dX6_tail_3 (v := (nI 0)) (by decide) ?_
  refine g_istore_n C dX6_tail_4 rfl (by decide) (lv' := [(3, .int (nI 0)), (2, .int (nI 65535)), (0, .long f)]) rfl ?_
  have L5 : ∀ (n9 : Nat) (i : Nat), 16 - i < n9 → (i ≤ 16) → (∀ j, j < i → itF f j ≠ itF f 16) → gG (g_IP D s []) p l e rm_t_X6_tail s m args below meth c Q 4 0 0 5 [(3, .int (nI i)), (2, .int (nI (itF f i))), (0, .long f)] [] [] := by
    intro n9
    induction n9 with
    | zero => intro i hn; exact absurd hn (Nat.not_lt_zero _)
    | succ n9 ih5 =>
      intro i hn5 hi hj
      have := itF_lt f i
      refine g_iload_n C dX6_tail_5 1 rfl rfl ?_
      refine g_lload_n C dX6_tail_6 2 rfl rfl ?_
      refine g_callPS C ⟨g_X0_ok, trivial⟩ (t_X6_returning l D ty f) rfl gX6_tail_X6_returning 1 (by decide +kernel) rfl ⟨rfl, rfl⟩ ⟨Nat.le_of_ble_eq_true rfl, Nat.le_of_ble_eq_true rfl⟩ (rest := [.int (nI (itF f i))]) [] rfl (Nat.le_of_ble_eq_true rfl) dX6_tail_7 ⟨Nat.le_of_ble_eq_true rfl, Nat.le_of_ble_eq_true rfl⟩ rfl (g_ki (fun r hr => ?_))
      subst hr
      have := itF_lt f 16
      refine g_icmp_eqN C dX6_tail_10 (tgt := 25) (by decide) (by omega) (by omega) (fun h10 => ?_) (fun h10 => ?_)
      · skip
        refine g_iload_n C dX6_tail_25 0 rfl rfl ?_
        exact hR _ _ _ _ dX6_tail_26 (⟨_, rfl, hi, h10, hj⟩)
      · skip
        have hi16 : i < 16 := by
          rcases Nat.lt_or_ge i 16 with q | q
          · exact q
          · exact absurd (by rw [show i = 16 by omega]) h10
        refine g_lload_n C dX6_tail_13 2 rfl rfl ?_
        refine g_iload_n C dX6_tail_14 1 rfl rfl ?_
        refine g_callPS C ⟨g_X0_ok, trivial⟩ (t_X6_through l D ty f (itF f i) (by omega)) rfl gX6_tail_X6_through 2 (by decide +kernel) rfl ⟨rfl, rfl⟩ ⟨Nat.le_of_ble_eq_true rfl, Nat.le_of_ble_eq_true rfl⟩ (rest := []) [] rfl (Nat.le_of_ble_eq_true rfl) dX6_tail_15 ⟨Nat.le_of_ble_eq_true rfl, Nat.le_of_ble_eq_true rfl⟩ rfl (g_ki (fun r hr => ?_))
        subst hr
        have : imF f (itF f i) < 65536 := imN_lt _ _ 16
        refine g_istore_n C dX6_tail_18 rfl (by decide) (lv' := [(2, .int (nI (imF f (itF f i)))), (3, .int (nI i)), (0, .long f)]) rfl ?_
        refine g_iinc C dX6_tail_19 1 rfl (v := (nI (i + 1))) (nI_1 i) (by decide) (lv' := [(3, .int (nI (i + 1))), (2, .int (nI (imF f (itF f i)))), (0, .long f)]) rfl ?_
        refine g_goto C dX6_tail_22 (tgt := 5) (by decide) ?_
        exact ih5 (i + 1) (by omega) (by omega) (fun j h => (Nat.lt_or_ge j i).elim (hj j) (fun q => by rw [show j = i by omega]; omega))
  exact L5 _ 0 (Nat.lt_succ_self _) (by omega) (fun j h => absurd h (Nat.not_lt_zero j))

abbrev rm_t_X6_unlike : Room := ({ frames := 1, cells := 0, slots := 0, locals := 22 } : Room)
set_option maxHeartbeats 4000000 in
set_option maxRecDepth 100000 in
theorem t_X6_unlike (l : Launch) (D : va_G) (ty : g_T3) (f g : Int64) : g_P l yX6_unlike wsX6_unlike rm_t_X6_unlike D ty g_X0 [.long f, .long g] [] (g_pi (fun r => r = nI (ulN f g 16))) := by
  refine g_ofPi (cc := cX6_unlike) (nL := 6) (own := RX6) (by decide) rfl rfl g_X0_ok (Nat.le_of_ble_eq_true rfl) ?_
  intro p e s m args below meth c Q C hX hR
  refine g_lv (lv' := [(0, .long f), (2, .long g)]) [0, 1] rfl ?_
  refine g_iconst C dX6_unlike_0 (v := (nI 0)) (by decide) ?_
  refine g_istore C dX6_unlike_1 (by decide) (lv' := [(4, .int (nI 0)), (0, .long f), (2, .long g)]) rfl ?_
  refine g_iconst C dX6_unlike_3 (v := (nI 0)) (by decide) ?_
  refine g_istore C dX6_unlike_4 (by decide) (lv' := [(5, .int (nI 0)), (4, .int (nI 0)), (0, .long f), (2, .long g)]) rfl ?_
  have L6 : ∀ (n9 : Nat) (i v : Nat), 16 - i < n9 → (i ≤ 16) → (v = ulN f g i) → gG (g_IP D s []) p l e rm_t_X6_unlike s m args below meth c Q 6 0 0 6 [(5, .int (nI i)), (4, .int (nI v)), (0, .long f), (2, .long g)] [] [] := by
    intro n9
    induction n9 with
    | zero => intro i v hn; exact absurd hn (Nat.not_lt_zero _)
    | succ n9 ih6 =>
      intro i v hn6 hi hv
      refine g_iload C dX6_unlike_6 0 rfl ?_
      refine g_bipush C dX6_unlike_8 (v := (nI 16)) (by decide) ?_
      refine g_icmp_geN C dX6_unlike_10 (tgt := 47) (by decide) (by omega) (by omega) (fun h10 => ?_) (fun h10 => ?_)
      · skip
        obtain rfl : i = 16 := by omega
        subst hv
        refine g_iload C dX6_unlike_47 1 rfl ?_
        exact hR _ _ _ _ dX6_unlike_49 (rfl)
      · skip
        refine g_iload C dX6_unlike_13 1 rfl ?_
        refine g_lload_n C dX6_unlike_15 2 rfl rfl ?_
        refine g_iload C dX6_unlike_16 0 rfl ?_
        refine g_callPS C ⟨g_X0_ok, trivial⟩ (t_X6_at l D ty f i (by omega)) rfl gX6_unlike_X6_at 2 (by decide +kernel) rfl ⟨rfl, rfl⟩ ⟨Nat.le_of_ble_eq_true rfl, Nat.le_of_ble_eq_true rfl⟩ (rest := [.int (nI v)]) [] rfl (Nat.le_of_ble_eq_true rfl) dX6_unlike_18 ⟨Nat.le_of_ble_eq_true rfl, Nat.le_of_ble_eq_true rfl⟩ rfl (g_ki (fun r hr => ?_))
        subst hr
        have := nib_lt f i
        refine g_lload_n C dX6_unlike_21 3 rfl rfl ?_
        refine g_iload C dX6_unlike_22 0 rfl ?_
        refine g_callPS C ⟨g_X0_ok, trivial⟩ (t_X6_at l D ty g i (by omega)) rfl gX6_unlike_X6_at 2 (by decide +kernel) rfl ⟨rfl, rfl⟩ ⟨Nat.le_of_ble_eq_true rfl, Nat.le_of_ble_eq_true rfl⟩ (rest := [.int (nI (nib f i)), .int (nI v)]) [] rfl (Nat.le_of_ble_eq_true rfl) dX6_unlike_24 ⟨Nat.le_of_ble_eq_true rfl, Nat.le_of_ble_eq_true rfl⟩ rfl (g_ki (fun r hr => ?_))
        subst hr
        have := nib_lt g i
        refine g_icmp_neN C dX6_unlike_27 (tgt := 34) (by decide) (by omega) (by omega) (fun h27 => ?_) (fun h27 => ?_)
        · skip
          refine g_iconst C dX6_unlike_34 (v := (nI 1)) (by decide) ?_
          refine g_iload C dX6_unlike_35 0 rfl ?_
          refine g_ishl C dX6_unlike_37 (v := (nI (2 ^ i))) (ni_shl1 (by omega)) ?_
          refine g_ior C dX6_unlike_38 (v := (nI (v ||| (2 ^ i)))) (nior _ _) ?_
          refine g_istore C dX6_unlike_39 (by decide) (lv' := [(4, .int (nI (v ||| (2 ^ i)))), (5, .int (nI i)), (0, .long f), (2, .long g)]) rfl ?_
          refine g_iinc C dX6_unlike_41 1 rfl (v := (nI (i + 1))) (nI_1 i) (by decide) (lv' := [(5, .int (nI (i + 1))), (4, .int (nI (v ||| (2 ^ i)))), (0, .long f), (2, .long g)]) rfl ?_
          refine g_goto C dX6_unlike_44 (tgt := 6) (by decide) ?_
          exact ih6 (i + 1) _ (by omega) (by omega) (by rw [hv]; first | exact (ulN_1 (by omega)).symm | exact (ulN_0 (by omega)).symm)
        · skip
          refine g_iconst C dX6_unlike_30 (v := (nI 0)) (by decide) ?_
          refine g_goto C dX6_unlike_31 (tgt := 38) (by decide) ?_
          refine g_ior C dX6_unlike_38 (v := (nI (v ||| 0))) (nior _ _) ?_
          refine g_istore C dX6_unlike_39 (by decide) (lv' := [(4, .int (nI (v ||| 0))), (5, .int (nI i)), (0, .long f), (2, .long g)]) rfl ?_
          refine g_iinc C dX6_unlike_41 1 rfl (v := (nI (i + 1))) (nI_1 i) (by decide) (lv' := [(5, .int (nI (i + 1))), (4, .int (nI (v ||| 0))), (0, .long f), (2, .long g)]) rfl ?_
          refine g_goto C dX6_unlike_44 (tgt := 6) (by decide) ?_
          exact ih6 (i + 1) _ (by omega) (by omega) (by rw [hv]; first | exact (ulN_1 (by omega)).symm | exact (ulN_0 (by omega)).symm)
  exact L6 _ 0 0 (Nat.lt_succ_self _) (by omega) rfl

abbrev rm_t_X6_chain : Room := ({ frames := 0, cells := 0, slots := 0, locals := 0 } : Room)
set_option maxHeartbeats 4000000 in
set_option maxRecDepth 100000 in
theorem t_X6_chain (l : Launch) (D : va_G) (ty : g_T3) (f : Int64) : g_P l yX6_chain wsX6_chain rm_t_X6_chain D ty g_X0 [.long f] [] (g_pi (fun r => r = nI (chn f))) := by
  refine g_ofPi (cc := cX6_chain) (nL := 2) (own := RX6) (by decide) rfl rfl g_X0_ok (Nat.le_of_ble_eq_true rfl) ?_
  intro p e s m args below meth c Q C hX hR
  refine g_lv (lv' := [(0, .long f)]) [0] rfl ?_
  refine g_lload_n C dX6_chain_0 0 rfl rfl ?_
  refine g_lload_n C dX6_chain_1 0 rfl rfl ?_
  refine g_bipush C dX6_chain_2 (v := (nI 17)) (by decide) ?_
  refine g_lushr C dX6_chain_4 (v := (j_ushr f (nI 17))) rfl ?_
  refine g_lxor C dX6_chain_5 (v := (f ^^^ (j_ushr f (nI 17)))) rfl ?_
  refine g_lload_n C dX6_chain_6 0 rfl rfl ?_
  refine g_bipush C dX6_chain_7 (v := (nI 34)) (by decide) ?_
  refine g_lushr C dX6_chain_9 (v := (j_ushr f (nI 34))) rfl ?_
  refine g_lxor C dX6_chain_10 (v := ((f ^^^ (j_ushr f (nI 17))) ^^^ (j_ushr f (nI 34)))) rfl ?_
  refine g_lload_n C dX6_chain_11 0 rfl rfl ?_
  refine g_bipush C dX6_chain_12 (v := (nI 51)) (by decide) ?_
  refine g_lushr C dX6_chain_14 (v := (j_ushr f (nI 51))) rfl ?_
  refine g_lxor C dX6_chain_15 (v := (((f ^^^ (j_ushr f (nI 17))) ^^^ (j_ushr f (nI 34))) ^^^ (j_ushr f (nI 51)))) rfl ?_
  refine g_ldc2 C (v := (1023)) 1 rfl dX6_chain_16 ?_
  refine g_land C dX6_chain_19 (v := ((((f ^^^ (j_ushr f (nI 17))) ^^^ (j_ushr f (nI 34))) ^^^ (j_ushr f (nI 51))) &&& (1023))) rfl ?_
  refine g_l2i C dX6_chain_20 (v := (nI (chn f))) (chn_ok (chF f)) ?_
  exact hR _ _ _ _ dX6_chain_21 (rfl)

abbrev rm_t_X6_isDigit : Room := ({ frames := 1, cells := 0, slots := 0, locals := 22 } : Room)
set_option maxHeartbeats 4000000 in
set_option maxRecDepth 100000 in
theorem t_X6_isDigit (l : Launch) (D : va_G) (ty : g_T3) (b : Int32) : g_P l yX6_isDigit wsX6_isDigit rm_t_X6_isDigit D ty g_X0 [.int b] [] (g_pi (fun r => r = nI (inB b (nI 48) (nI 57)).toNat)) := by
  refine g_ofPz (cc := cX6_isDigit) (nL := 1) (own := RX6) (by decide) rfl rfl g_X0_ok (Nat.le_of_ble_eq_true rfl) ?_
  intro p e s m args below meth c Q C hX hR
  refine g_lv (lv' := [(0, .int b)]) [0] rfl ?_
  refine g_iload_n C dX6_isDigit_0 0 rfl rfl ?_
  refine g_bipush C dX6_isDigit_1 (v := (nI 48)) (by decide) ?_
  refine g_bipush C dX6_isDigit_3 (v := (nI 57)) (by decide) ?_
  refine g_callPS C ⟨g_X0_ok, trivial⟩ (t_X6_isIn l D ty b (nI 48) (nI 57)) rfl gX6_isDigit_X6_isIn 3 (by decide +kernel) rfl ⟨rfl, rfl⟩ ⟨Nat.le_of_ble_eq_true rfl, Nat.le_of_ble_eq_true rfl⟩ (rest := []) [] rfl (Nat.le_of_ble_eq_true rfl) dX6_isDigit_5 ⟨Nat.le_of_ble_eq_true rfl, Nat.le_of_ble_eq_true rfl⟩ rfl (g_ki (fun r hr => ?_))
  subst hr
  have := bt_lt (inB b (nI 48) (nI 57))
  exact hR _ _ _ _ (bt_z _) dX6_isDigit_8 (rfl)

abbrev rm_t_X6_isFor : Room := ({ frames := 1, cells := 0, slots := 0, locals := 22 } : Room)
set_option maxHeartbeats 4000000 in
set_option maxRecDepth 100000 in
theorem t_X6_isFor (l : Launch) (D : va_G) (ty : g_T3) (f : Int64) (w a b : Nat) (hw : w < 4) (ha : a < 16) (hb : b < 16) : g_P l yX6_isFor wsX6_isFor rm_t_X6_isFor D ty g_X0 [.long f, .int (nI w), .int (nI a), .int (nI b)] [] (g_pi (fun r => r = nI (ifB f w a b).toNat)) := by
  refine g_ofPz (cc := cX6_isFor) (nL := 7) (own := RX6) (by decide) rfl rfl g_X0_ok (Nat.le_of_ble_eq_true rfl) ?_
  intro p e s m args below meth c Q C hX hR
  refine g_lv (lv' := [(0, .long f), (2, .int (nI w)), (3, .int (nI a)), (4, .int (nI b))]) [0, 1, 2, 3] rfl ?_
  have hx : a ^^^ b < 16 := xor_lt (n := 4) ha hb
  have hxn : ∀ x y, nib f x ^^^ nib f y < 16 := fun x y => xor_lt (n := 4) (nib_lt f x) (nib_lt f y)
  refine g_iload_n C dX6_isFor_0 1 rfl rfl ?_
  refine g_if_neN C dX6_isFor_1 (tgt := 33) (by decide) (by omega) (fun h1 => ?_) (fun h1 => ?_)
  · skip
    refine g_iload_n C dX6_isFor_33 1 rfl rfl ?_
    refine g_iconst C dX6_isFor_34 (v := (nI 1)) (by decide) ?_
    refine g_icmp_neN C dX6_isFor_35 (tgt := 64) (by decide) (by omega) (by omega) (fun h35 => ?_) (fun h35 => ?_)
    · skip
      refine g_iload_n C dX6_isFor_64 1 rfl rfl ?_
      refine g_iconst C dX6_isFor_65 (v := (nI 2)) (by decide) ?_
      refine g_icmp_neN C dX6_isFor_66 (tgt := 92) (by decide) (by omega) (by omega) (fun h66 => ?_) (fun h66 => ?_)
      · skip
        have hw3 : 3 ≤ w := by omega
        refine g_iconst C dX6_isFor_92 (v := (nI 1)) (by decide) ?_
        refine g_istore C dX6_isFor_93 (by decide) (lv' := [(5, .int (nI 1)), (0, .long f), (2, .int (nI w)), (3, .int (nI a)), (4, .int (nI b))]) rfl ?_
        refine g_iconst C dX6_isFor_95 (v := (nI 0)) (by decide) ?_
        refine g_istore C dX6_isFor_96 (by decide) (lv' := [(6, .int (nI 0)), (5, .int (nI 1)), (0, .long f), (2, .int (nI w)), (3, .int (nI a)), (4, .int (nI b))]) rfl ?_
        have L98 : ∀ (n9 : Nat) (k v : Nat), 4 - k < n9 → (k ≤ 4) → (v = (deB (∀ j, j < k → ¬ (a ^^^ b) % (2 * 2 ^ j) = 0 ∨ nib f a / 2 ^ j % 2 = nib f b / 2 ^ j % 2)).toNat) → gG (g_IP D s []) p l e rm_t_X6_isFor s m args below meth c Q 7 0 0 98 [(6, .int (nI k)), (5, .int (nI v)), (0, .long f), (2, .int (nI w)), (3, .int (nI a)), (4, .int (nI b))] [] [] := by
          intro n9
          induction n9 with
          | zero => intro k v hn; exact absurd hn (Nat.not_lt_zero _)
          | succ n9 ih98 =>
            intro k v hn98 hk hv
            have hvv : v < 2 := by rw [hv]; exact bt_lt _
            refine g_iload C dX6_isFor_98 0 rfl ?_
            refine g_iconst C dX6_isFor_100 (v := (nI 4)) (by decide) ?_
            refine g_icmp_geN C dX6_isFor_101 (tgt := 158) (by decide) (by omega) (by omega) (fun h101 => ?_) (fun h101 => ?_)
            · skip
              obtain rfl : k = 4 := by omega
              refine g_iload C dX6_isFor_158 1 rfl ?_
              exact hR _ _ _ _ (by rw [hv]; exact bt_z _) dX6_isFor_160 (by rw [hv, ifB_3 hw3])
            · skip
              have hp : 2 ^ k ≤ 8 := (Nat.pow_le_pow_right (by decide) (show k ≤ 3 by omega) : 2 ^ k ≤ 2 ^ 3)
              have hp0 : 0 < 2 ^ k := Nat.two_pow_pos k
              refine g_iload C dX6_isFor_104 1 rfl ?_
              refine g_if_eqN C dX6_isFor_106 (tgt := 149) (by decide) (by omega) (fun h106 => ?_) (fun h106 => ?_)
              · skip
                have h106 : ¬ (∀ j, j < k → ¬ (a ^^^ b) % (2 * 2 ^ j) = 0 ∨ nib f a / 2 ^ j % 2 = nib f b / 2 ^ j % 2) := fun q => by rw [hv, deB_t q] at h106; exact absurd h106 (by decide)
                refine g_iconst C dX6_isFor_149 (v := (nI 0)) (by decide) ?_
                refine g_istore C dX6_isFor_150 (by decide) (lv' := [(5, .int (nI 0)), (6, .int (nI k)), (0, .long f), (2, .int (nI w)), (3, .int (nI a)), (4, .int (nI b))]) rfl ?_
                refine g_iinc C dX6_isFor_152 1 rfl (v := (nI (k + 1))) (nI_1 k) (by decide) (lv' := [(6, .int (nI (k + 1))), (5, .int (nI 0)), (0, .long f), (2, .int (nI w)), (3, .int (nI a)), (4, .int (nI b))]) rfl ?_
                refine g_goto C dX6_isFor_155 (tgt := 98) (by decide) ?_
                exact ih98 (k + 1) _ (by omega) (by omega) (by first | rw [deB_t (fun j hj => (Nat.lt_or_ge j k).elim (hq j) (fun q => by rw [show j = k by omega]; first | exact Or.inl h118 | exact Or.inr h142))]; rfl | rw [deB_f (fun q => h106 (fun j hj => q j (by omega)))]; rfl | rw [deB_f (fun q => (q k (by omega)).elim (fun z => z (by omega)) h142)]; rfl)
              · skip
                have hq : ∀ j, j < k → ¬ (a ^^^ b) % (2 * 2 ^ j) = 0 ∨ nib f a / 2 ^ j % 2 = nib f b / 2 ^ j % 2 := by
                  apply Classical.byContradiction
                  intro q
                  rw [hv, deB_f q] at h106
                  exact h106 rfl
                refine g_iload_n C dX6_isFor_109 4 rfl rfl ?_
                refine g_iload C dX6_isFor_110 5 rfl ?_
                refine g_ixor C dX6_isFor_112 (v := (nI (a ^^^ b))) (nixor _ _) ?_
                refine g_iconst C dX6_isFor_113 (v := (nI 2)) (by decide) ?_
                refine g_iload C dX6_isFor_114 0 rfl ?_
                refine g_ishl C dX6_isFor_116 (v := (nI (2 * 2 ^ k))) (ni_shl (by omega) (by omega)) ?_
                refine g_irem C dX6_isFor_117 (nI_ne0 (by omega) (by omega)) (v := (nI ((a ^^^ b) % (2 * 2 ^ k)))) (pk_rem (by omega) (by omega) (by omega)) ?_
                refine g_if_neN C dX6_isFor_118 (tgt := 145) (by decide) (by have := Nat.mod_lt (a ^^^ b) (show 0 < 2 * 2 ^ k by omega); omega) (fun h118 => ?_) (fun h118 => ?_)
                · skip
                  refine g_iconst C dX6_isFor_145 (v := (nI 1)) (by decide) ?_
                  refine g_goto C dX6_isFor_146 (tgt := 150) (by decide) ?_
                  refine g_istore C dX6_isFor_150 (by decide) (lv' := [(5, .int (nI 1)), (6, .int (nI k)), (0, .long f), (2, .int (nI w)), (3, .int (nI a)), (4, .int (nI b))]) rfl ?_
                  refine g_iinc C dX6_isFor_152 1 rfl (v := (nI (k + 1))) (nI_1 k) (by decide) (lv' := [(6, .int (nI (k + 1))), (5, .int (nI 1)), (0, .long f), (2, .int (nI w)), (3, .int (nI a)), (4, .int (nI b))]) rfl ?_
                  refine g_goto C dX6_isFor_155 (tgt := 98) (by decide) ?_
                  exact ih98 (k + 1) _ (by omega) (by omega) (by first | rw [deB_t (fun j hj => (Nat.lt_or_ge j k).elim (hq j) (fun q => by rw [show j = k by omega]; first | exact Or.inl h118 | exact Or.inr h142))]; rfl | rw [deB_f (fun q => h106 (fun j hj => q j (by omega)))]; rfl | rw [deB_f (fun q => (q k (by omega)).elim (fun z => z (by omega)) h142)]; rfl)
                · skip
                  refine g_lload_n C dX6_isFor_121 2 rfl rfl ?_
                  refine g_iload_n C dX6_isFor_122 4 rfl rfl ?_
                  refine g_callPS C ⟨g_X0_ok, trivial⟩ (t_X6_at l D ty f a (by omega)) rfl gX6_isFor_X6_at 2 (by decide +kernel) rfl ⟨rfl, rfl⟩ ⟨Nat.le_of_ble_eq_true rfl, Nat.le_of_ble_eq_true rfl⟩ (rest := []) [] rfl (Nat.le_of_ble_eq_true rfl) dX6_isFor_123 ⟨Nat.le_of_ble_eq_true rfl, Nat.le_of_ble_eq_true rfl⟩ rfl (g_ki (fun r hr => ?_))
                  subst hr
                  have := nib_lt f a
                  refine g_iload C dX6_isFor_126 0 rfl ?_
                  refine g_ishr C dX6_isFor_128 (v := (nI ((nib f a) / 2 ^ k))) (ni_shr (by omega) (by omega)) ?_
                  refine g_iconst C dX6_isFor_129 (v := (nI 1)) (by decide) ?_
                  refine g_iand C dX6_isFor_130 (v := (nI (((nib f a) / 2 ^ k) % 2))) (ni_and1 _) ?_
                  refine g_lload_n C dX6_isFor_131 2 rfl rfl ?_
                  refine g_iload C dX6_isFor_132 5 rfl ?_
                  refine g_callPS C ⟨g_X0_ok, trivial⟩ (t_X6_at l D ty f b (by omega)) rfl gX6_isFor_X6_at 2 (by decide +kernel) rfl ⟨rfl, rfl⟩ ⟨Nat.le_of_ble_eq_true rfl, Nat.le_of_ble_eq_true rfl⟩ (rest := [.int (nI (((nib f a) / 2 ^ k) % 2))]) [] rfl (Nat.le_of_ble_eq_true rfl) dX6_isFor_134 ⟨Nat.le_of_ble_eq_true rfl, Nat.le_of_ble_eq_true rfl⟩ rfl (g_ki (fun r hr => ?_))
                  subst hr
                  have := nib_lt f b
                  refine g_iload C dX6_isFor_137 0 rfl ?_
                  refine g_ishr C dX6_isFor_139 (v := (nI ((nib f b) / 2 ^ k))) (ni_shr (by omega) (by omega)) ?_
                  refine g_iconst C dX6_isFor_140 (v := (nI 1)) (by decide) ?_
                  refine g_iand C dX6_isFor_141 (v := (nI (((nib f b) / 2 ^ k) % 2))) (ni_and1 _) ?_
                  refine g_icmp_neN C dX6_isFor_142 (tgt := 149) (by decide) (by omega) (by omega) (fun h142 => ?_) (fun h142 => ?_)
                  · skip
                    refine g_iconst C dX6_isFor_149 (v := (nI 0)) (by decide) ?_
                    refine g_istore C dX6_isFor_150 (by decide) (lv' := [(5, .int (nI 0)), (6, .int (nI k)), (0, .long f), (2, .int (nI w)), (3, .int (nI a)), (4, .int (nI b))]) rfl ?_
                    refine g_iinc C dX6_isFor_152 1 rfl (v := (nI (k + 1))) (nI_1 k) (by decide) (lv' := [(6, .int (nI (k + 1))), (5, .int (nI 0)), (0, .long f), (2, .int (nI w)), (3, .int (nI a)), (4, .int (nI b))]) rfl ?_
                    refine g_goto C dX6_isFor_155 (tgt := 98) (by decide) ?_
                    exact ih98 (k + 1) _ (by omega) (by omega) (by first | rw [deB_t (fun j hj => (Nat.lt_or_ge j k).elim (hq j) (fun q => by rw [show j = k by omega]; first | exact Or.inl h118 | exact Or.inr h142))]; rfl | rw [deB_f (fun q => h106 (fun j hj => q j (by omega)))]; rfl | rw [deB_f (fun q => (q k (by omega)).elim (fun z => z (by omega)) h142)]; rfl)
                  · skip
                    refine g_iconst C dX6_isFor_145 (v := (nI 1)) (by decide) ?_
                    refine g_goto C dX6_isFor_146 (tgt := 150) (by decide) ?_
                    refine g_istore C dX6_isFor_150 (by decide) (lv' := [(5, .int (nI 1)), (6, .int (nI k)), (0, .long f), (2, .int (nI w)), (3, .int (nI a)), (4, .int (nI b))]) rfl ?_
                    refine g_iinc C dX6_isFor_152 1 rfl (v := (nI (k + 1))) (nI_1 k) (by decide) (lv' := [(6, .int (nI (k + 1))), (5, .int (nI 1)), (0, .long f), (2, .int (nI w)), (3, .int (nI a)), (4, .int (nI b))]) rfl ?_
                    refine g_goto C dX6_isFor_155 (tgt := 98) (by decide) ?_
                    exact ih98 (k + 1) _ (by omega) (by omega) (by first | rw [deB_t (fun j hj => (Nat.lt_or_ge j k).elim (hq j) (fun q => by rw [show j = k by omega]; first | exact Or.inl h118 | exact Or.inr h142))]; rfl | rw [deB_f (fun q => h106 (fun j hj => q j (by omega)))]; rfl | rw [deB_f (fun q => (q k (by omega)).elim (fun z => z (by omega)) h142)]; rfl)
        exact L98 _ 0 1 (Nat.lt_succ_self _) (by omega) (by rw [deB_t (fun j h => absurd h (Nat.not_lt_zero j))]; rfl)
      · skip
        subst h66
        refine g_lload_n C dX6_isFor_69 0 rfl rfl ?_
        refine g_lload_n C dX6_isFor_70 0 rfl rfl ?_
        refine g_iload_n C dX6_isFor_71 2 rfl rfl ?_
        refine g_callPS C ⟨g_X0_ok, trivial⟩ (t_X6_at l D ty f a (by omega)) rfl gX6_isFor_X6_at 2 (by decide +kernel) rfl ⟨rfl, rfl⟩ ⟨Nat.le_of_ble_eq_true rfl, Nat.le_of_ble_eq_true rfl⟩ (rest := [.long f]) [] rfl (Nat.le_of_ble_eq_true rfl) dX6_isFor_72 ⟨Nat.le_of_ble_eq_true rfl, Nat.le_of_ble_eq_true rfl⟩ rfl (g_ki (fun r hr => ?_))
        subst hr
        have := nib_lt f a
        refine g_callPS C ⟨g_X0_ok, trivial⟩ (t_X6_at l D ty f (nib f a) (by omega)) rfl gX6_isFor_X6_at 2 (by decide +kernel) rfl ⟨rfl, rfl⟩ ⟨Nat.le_of_ble_eq_true rfl, Nat.le_of_ble_eq_true rfl⟩ (rest := []) [] rfl (Nat.le_of_ble_eq_true rfl) dX6_isFor_75 ⟨Nat.le_of_ble_eq_true rfl, Nat.le_of_ble_eq_true rfl⟩ rfl (g_ki (fun r hr => ?_))
        subst hr
        have := nib_lt f (nib f a)
        refine g_lload_n C dX6_isFor_78 0 rfl rfl ?_
        refine g_iload_n C dX6_isFor_79 2 rfl rfl ?_
        refine g_callPS C ⟨g_X0_ok, trivial⟩ (t_X6_at l D ty f a (by omega)) rfl gX6_isFor_X6_at 2 (by decide +kernel) rfl ⟨rfl, rfl⟩ ⟨Nat.le_of_ble_eq_true rfl, Nat.le_of_ble_eq_true rfl⟩ (rest := [.int (nI (nib f (nib f a)))]) [] rfl (Nat.le_of_ble_eq_true rfl) dX6_isFor_80 ⟨Nat.le_of_ble_eq_true rfl, Nat.le_of_ble_eq_true rfl⟩ rfl (g_ki (fun r hr => ?_))
        subst hr
        have := nib_lt f a
        refine g_icmp_neN C dX6_isFor_83 (tgt := 90) (by decide) (by omega) (by omega) (fun h83 => ?_) (fun h83 => ?_)
        · skip
          refine g_iconst C dX6_isFor_90 (v := (nI 0)) (by decide) ?_
          refine hR _ _ _ _ rfl dX6_isFor_91 ?_
          first | exact n1_t (deB_t h83) | exact n0_f (deB_f h83)
        · skip
          refine g_iconst C dX6_isFor_86 (v := (nI 1)) (by decide) ?_
          refine g_goto C dX6_isFor_87 (tgt := 91) (by decide) ?_
          refine hR _ _ _ _ rfl dX6_isFor_91 ?_
          first | exact n1_t (deB_t h83) | exact n0_f (deB_f h83)
    · skip
      subst h35
      refine g_iload_n C dX6_isFor_38 2 rfl rfl ?_
      refine g_iload C dX6_isFor_39 3 rfl ?_
      refine g_icmp_leN C dX6_isFor_41 (tgt := 58) (by decide) (by omega) (by omega) (fun h41 => ?_) (fun h41 => ?_)
      · skip
        refine g_iconst C dX6_isFor_58 (v := (nI 1)) (by decide) ?_
        refine g_goto C dX6_isFor_59 (tgt := 63) (by decide) ?_
        refine hR _ _ _ _ rfl dX6_isFor_63 ?_
        first | exact n1_t (deB_t (Or.inl h41)) | exact n1_t (deB_t (Or.inr h55)) | exact n0_f (deB_f (by omega))
      · skip
        refine g_lload_n C dX6_isFor_44 0 rfl rfl ?_
        refine g_iload_n C dX6_isFor_45 2 rfl rfl ?_
        refine g_callPS C ⟨g_X0_ok, trivial⟩ (t_X6_at l D ty f a (by omega)) rfl gX6_isFor_X6_at 2 (by decide +kernel) rfl ⟨rfl, rfl⟩ ⟨Nat.le_of_ble_eq_true rfl, Nat.le_of_ble_eq_true rfl⟩ (rest := []) [] rfl (Nat.le_of_ble_eq_true rfl) dX6_isFor_46 ⟨Nat.le_of_ble_eq_true rfl, Nat.le_of_ble_eq_true rfl⟩ rfl (g_ki (fun r hr => ?_))
        subst hr
        have := nib_lt f a
        refine g_lload_n C dX6_isFor_49 0 rfl rfl ?_
        refine g_iload C dX6_isFor_50 3 rfl ?_
        refine g_callPS C ⟨g_X0_ok, trivial⟩ (t_X6_at l D ty f b (by omega)) rfl gX6_isFor_X6_at 2 (by decide +kernel) rfl ⟨rfl, rfl⟩ ⟨Nat.le_of_ble_eq_true rfl, Nat.le_of_ble_eq_true rfl⟩ (rest := [.int (nI (nib f a))]) [] rfl (Nat.le_of_ble_eq_true rfl) dX6_isFor_52 ⟨Nat.le_of_ble_eq_true rfl, Nat.le_of_ble_eq_true rfl⟩ rfl (g_ki (fun r hr => ?_))
        subst hr
        have := nib_lt f b
        refine g_icmp_ltN C dX6_isFor_55 (tgt := 62) (by decide) (by omega) (by omega) (fun h55 => ?_) (fun h55 => ?_)
        · skip
          refine g_iconst C dX6_isFor_62 (v := (nI 0)) (by decide) ?_
          refine hR _ _ _ _ rfl dX6_isFor_63 ?_
          first | exact n1_t (deB_t (Or.inl h41)) | exact n1_t (deB_t (Or.inr h55)) | exact n0_f (deB_f (by omega))
        · skip
          refine g_iconst C dX6_isFor_58 (v := (nI 1)) (by decide) ?_
          refine g_goto C dX6_isFor_59 (tgt := 63) (by decide) ?_
          refine hR _ _ _ _ rfl dX6_isFor_63 ?_
          first | exact n1_t (deB_t (Or.inl h41)) | exact n1_t (deB_t (Or.inr h55)) | exact n0_f (deB_f (by omega))
  · skip
    subst h1
    refine g_lload_n C dX6_isFor_4 0 rfl rfl ?_
    refine g_iload_n C dX6_isFor_5 2 rfl rfl ?_
    refine g_iload C dX6_isFor_6 3 rfl ?_
    refine g_ixor C dX6_isFor_8 (v := (nI (a ^^^ b))) (nixor _ _) ?_
    refine g_callPS C ⟨g_X0_ok, trivial⟩ (t_X6_at l D ty f (a ^^^ b) (by omega)) rfl gX6_isFor_X6_at 2 (by decide +kernel) rfl ⟨rfl, rfl⟩ ⟨Nat.le_of_ble_eq_true rfl, Nat.le_of_ble_eq_true rfl⟩ (rest := []) [] rfl (Nat.le_of_ble_eq_true rfl) dX6_isFor_9 ⟨Nat.le_of_ble_eq_true rfl, Nat.le_of_ble_eq_true rfl⟩ rfl (g_ki (fun r hr => ?_))
    subst hr
    have := nib_lt f (a ^^^ b)
    refine g_lload_n C dX6_isFor_12 0 rfl rfl ?_
    refine g_iload_n C dX6_isFor_13 2 rfl rfl ?_
    refine g_callPS C ⟨g_X0_ok, trivial⟩ (t_X6_at l D ty f a (by omega)) rfl gX6_isFor_X6_at 2 (by decide +kernel) rfl ⟨rfl, rfl⟩ ⟨Nat.le_of_ble_eq_true rfl, Nat.le_of_ble_eq_true rfl⟩ (rest := [.int (nI (nib f (a ^^^ b)))]) [] rfl (Nat.le_of_ble_eq_true rfl) dX6_isFor_14 ⟨Nat.le_of_ble_eq_true rfl, Nat.le_of_ble_eq_true rfl⟩ rfl (g_ki (fun r hr => ?_))
    subst hr
    have := nib_lt f a
    refine g_lload_n C dX6_isFor_17 0 rfl rfl ?_
    refine g_iload C dX6_isFor_18 3 rfl ?_
    refine g_callPS C ⟨g_X0_ok, trivial⟩ (t_X6_at l D ty f b (by omega)) rfl gX6_isFor_X6_at 2 (by decide +kernel) rfl ⟨rfl, rfl⟩ ⟨Nat.le_of_ble_eq_true rfl, Nat.le_of_ble_eq_true rfl⟩ (rest := [.int (nI (nib f a)), .int (nI (nib f (a ^^^ b)))]) [] rfl (Nat.le_of_ble_eq_true rfl) dX6_isFor_20 ⟨Nat.le_of_ble_eq_true rfl, Nat.le_of_ble_eq_true rfl⟩ rfl (g_ki (fun r hr => ?_))
    subst hr
    have := nib_lt f b
    refine g_ixor C dX6_isFor_23 (v := (nI ((nib f a) ^^^ (nib f b)))) (nixor _ _) ?_
    refine g_icmp_neN C dX6_isFor_24 (tgt := 31) (by decide) (by have := nib_lt f (a ^^^ b); omega) (by have := hxn a b; omega) (fun h24 => ?_) (fun h24 => ?_)
    · skip
      refine g_iconst C dX6_isFor_31 (v := (nI 0)) (by decide) ?_
      refine hR _ _ _ _ rfl dX6_isFor_32 ?_
      first | exact n1_t (deB_t h24) | exact n0_f (deB_f h24)
    · skip
      refine g_iconst C dX6_isFor_27 (v := (nI 1)) (by decide) ?_
      refine g_goto C dX6_isFor_28 (tgt := 32) (by decide) ?_
      refine hR _ _ _ _ rfl dX6_isFor_32 ?_
      first | exact n1_t (deB_t h24) | exact n0_f (deB_f h24)


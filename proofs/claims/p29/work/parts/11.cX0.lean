abbrev rm_t_X0_valueAt : Room := ({ frames := 0, cells := 0, slots := 0, locals := 0 } : Room)
set_option maxHeartbeats 4000000 in
set_option maxRecDepth 100000 in
theorem t_X0_valueAt (l : Launch) (D : va_G) (ty : g_T3) (f : Int64) (x : Nat) (hx : x < 16) : g_P l yX0_valueAt wsX0_valueAt rm_t_X0_valueAt D ty g_X0 [.long f, .int (nI x)] [] (g_pi (fun r => r = nI (nib f x))) := by
  refine g_ofPi (cc := cX0_valueAt) (nL := 3) (own := RX0) (by decide) rfl rfl g_X0_ok (Nat.le_of_ble_eq_true rfl) ?_
  intro p e s m args below meth c Q C hX hR
  refine g_lv (lv' := [(0, .long f), (2, .int (nI x))]) [0, 1] rfl ?_
  refine g_lload_n C dX0_valueAt_0 0 rfl rfl ?_
  refine g_iconst C dX0_valueAt_1 (v := (nI 4)) (by decide) ?_
  refine g_iload_n C dX0_valueAt_2 1 rfl rfl ?_
  refine g_imul C dX0_valueAt_3 (v := (nI (4 * x))) (pk_mul _ _) ?_
  refine g_lushr C dX0_valueAt_4 (v := (j_ushr f (nI (4 * x)))) rfl ?_
  refine g_l2i C dX0_valueAt_5 (v := (Int64.toInt32 (j_ushr f (nI (4 * x))))) rfl ?_
  refine g_bipush C dX0_valueAt_6 (v := (nI 15)) (by decide) ?_
  refine g_iand C dX0_valueAt_8 (v := ((Int64.toInt32 (j_ushr f (nI (4 * x)))) &&& (nI 15))) rfl ?_
  exact hR _ _ _ _ dX0_valueAt_9 (v_at f hx)

abbrev rm_t_X0_constant : Room := ({ frames := 0, cells := 0, slots := 0, locals := 0 } : Room)
set_option maxHeartbeats 4000000 in
set_option maxRecDepth 100000 in
theorem t_X0_constant (l : Launch) (D : va_G) (ty : g_T3) (v : Nat) (hv : v < 2 ^ 31) : g_P l yX0_constant wsX0_constant rm_t_X0_constant D ty g_X0 [.int (nI v)] [] (g_pl (fun r => r = kF v)) := by
  refine g_ofPl (cc := cX0_constant) (nL := 1) (own := RX0) (by decide) rfl rfl g_X0_ok (Nat.le_of_ble_eq_true rfl) ?_
  intro p e s m args below meth c Q C hX hR
  refine g_lv (lv' := [(0, .int (nI v))]) [0] rfl ?_
  refine g_iload_n C dX0_constant_0 0 rfl rfl ?_
  refine g_i2l C dX0_constant_1 (v := (lN v)) (nI_l hv) ?_
  refine g_ldc2 C (v := (1229782938247303441)) 1 rfl dX0_constant_2 ?_
  refine g_lmul C dX0_constant_5 (v := ((lN v) * (1229782938247303441))) rfl ?_
  exact hR _ _ _ _ dX0_constant_6 (lN_mul _ _)

abbrev rm_t_X0_twice : Room := ({ frames := 0, cells := 0, slots := 0, locals := 0 } : Room)
set_option maxHeartbeats 4000000 in
set_option maxRecDepth 100000 in
theorem t_X0_twice (l : Launch) (D : va_G) (ty : g_T3) (f : Int64) : g_P l yX0_twice wsX0_twice rm_t_X0_twice D ty g_X0 [.long f] [] (g_pl (fun r => r = twF f)) := by
  refine g_ofPl (cc := cX0_twice) (nL := 2) (own := RX0) (by decide) rfl rfl g_X0_ok (Nat.le_of_ble_eq_true rfl) ?_
  intro p e s m args below meth c Q C hX hR
  refine g_lv (lv' := [(0, .long f)]) [0] rfl ?_
  refine g_lload_n C dX0_twice_0 0 rfl rfl ?_
  refine g_ldc2 C (v := (8608480567731124087)) 1 rfl dX0_twice_1 ?_
  refine g_land C dX0_twice_4 (v := (f &&& (8608480567731124087))) rfl ?_
  refine g_iconst C dX0_twice_5 (v := (nI 1)) (by decide) ?_
  refine g_lshl C dX0_twice_6 (v := (j_shl (f &&& (8608480567731124087)) (nI 1))) rfl ?_
  exact hR _ _ _ _ dX0_twice_7 (rfl)

abbrev rm_t_X0_sum : Room := ({ frames := 0, cells := 0, slots := 0, locals := 0 } : Room)
set_option maxHeartbeats 4000000 in
set_option maxRecDepth 100000 in
theorem t_X0_sum (l : Launch) (D : va_G) (ty : g_T3) (f g : Int64) : g_P l yX0_sum wsX0_sum rm_t_X0_sum D ty g_X0 [.long f, .long g] [] (g_pl (fun r => r = suF f g)) := by
  refine g_ofPl (cc := cX0_sum) (nL := 4) (own := RX0) (by decide) rfl rfl g_X0_ok (Nat.le_of_ble_eq_true rfl) ?_
  intro p e s m args below meth c Q C hX hR
  refine g_lv (lv' := [(0, .long f), (2, .long g)]) [0, 1] rfl ?_
  refine g_lload_n C dX0_sum_0 0 rfl rfl ?_
  refine g_ldc2 C (v := (8608480567731124087)) 1 rfl dX0_sum_1 ?_
  refine g_land C dX0_sum_4 (v := (f &&& (8608480567731124087))) rfl ?_
  refine g_lload_n C dX0_sum_5 1 rfl rfl ?_
  refine g_ldc2 C (v := (8608480567731124087)) 1 rfl dX0_sum_6 ?_
  refine g_land C dX0_sum_9 (v := (g &&& (8608480567731124087))) rfl ?_
  refine g_ladd C dX0_sum_10 (v := ((f &&& (8608480567731124087)) + (g &&& (8608480567731124087)))) rfl ?_
  refine g_lload_n C dX0_sum_11 0 rfl rfl ?_
  refine g_lload_n C dX0_sum_12 1 rfl rfl ?_
  refine g_lxor C dX0_sum_13 (v := (f ^^^ g)) rfl ?_
  refine g_ldc2 C (v := (-8608480567731124088)) 2 rfl dX0_sum_14 ?_
  refine g_land C dX0_sum_17 (v := ((f ^^^ g) &&& (-8608480567731124088))) rfl ?_
  refine g_lxor C dX0_sum_18 (v := (((f &&& (8608480567731124087)) + (g &&& (8608480567731124087))) ^^^ ((f ^^^ g) &&& (-8608480567731124088)))) rfl ?_
  exact hR _ _ _ _ dX0_sum_19 (rfl)

abbrev rm_t_X0_difference : Room := ({ frames := 0, cells := 0, slots := 0, locals := 0 } : Room)
set_option maxHeartbeats 4000000 in
set_option maxRecDepth 100000 in
theorem t_X0_difference (l : Launch) (D : va_G) (ty : g_T3) (f g : Int64) : g_P l yX0_difference wsX0_difference rm_t_X0_difference D ty g_X0 [.long f, .long g] [] (g_pl (fun r => r = diF f g)) := by
  refine g_ofPl (cc := cX0_difference) (nL := 4) (own := RX0) (by decide) rfl rfl g_X0_ok (Nat.le_of_ble_eq_true rfl) ?_
  intro p e s m args below meth c Q C hX hR
  refine g_lv (lv' := [(0, .long f), (2, .long g)]) [0, 1] rfl ?_
  refine g_lload_n C dX0_difference_0 0 rfl rfl ?_
  refine g_ldc2 C (v := (-8608480567731124088)) 1 rfl dX0_difference_1 ?_
  refine g_lor C dX0_difference_4 (v := (f ||| (-8608480567731124088))) rfl ?_
  refine g_lload_n C dX0_difference_5 1 rfl rfl ?_
  refine g_ldc2 C (v := (8608480567731124087)) 2 rfl dX0_difference_6 ?_
  refine g_land C dX0_difference_9 (v := (g &&& (8608480567731124087))) rfl ?_
  refine g_lsub C dX0_difference_10 (v := ((f ||| (-8608480567731124088)) - (g &&& (8608480567731124087)))) rfl ?_
  refine g_lload_n C dX0_difference_11 0 rfl rfl ?_
  refine g_lload_n C dX0_difference_12 1 rfl rfl ?_
  refine g_ldc2 C (v := (-1)) 3 rfl dX0_difference_13 ?_
  refine g_lxor C dX0_difference_16 (v := (g ^^^ (-1))) rfl ?_
  refine g_lxor C dX0_difference_17 (v := (f ^^^ (g ^^^ (-1)))) rfl ?_
  refine g_ldc2 C (v := (-8608480567731124088)) 1 rfl dX0_difference_18 ?_
  refine g_land C dX0_difference_21 (v := ((f ^^^ (g ^^^ (-1))) &&& (-8608480567731124088))) rfl ?_
  refine g_lxor C dX0_difference_22 (v := (((f ||| (-8608480567731124088)) - (g &&& (8608480567731124087))) ^^^ ((f ^^^ (g ^^^ (-1))) &&& (-8608480567731124088)))) rfl ?_
  exact hR _ _ _ _ dX0_difference_23 (rfl)

abbrev rm_t_X0_product : Room := ({ frames := 1, cells := 0, slots := 0, locals := 23 } : Room)
set_option maxHeartbeats 4000000 in
set_option maxRecDepth 100000 in
theorem t_X0_product (l : Launch) (D : va_G) (ty : g_T3) (f g : Int64) : g_P l yX0_product wsX0_product rm_t_X0_product D ty g_X0 [.long f, .long g] [] (g_pl (fun r => r = prN f g 4)) := by
  refine g_ofPl (cc := cX0_product) (nL := 11) (own := RX0) (by decide) rfl rfl g_X0_ok (Nat.le_of_ble_eq_true rfl) ?_
  intro p e s m args below meth c Q C hX hR
  refine g_lv (lv' := [(0, .long f), (2, .long g)]) [0, 1] rfl ?_
  refine g_lconst C dX0_product_0 (v := 0) (by decide) ?_
  refine g_lstore C dX0_product_1 (by decide) (lv' := [(4, .long 0), (0, .long f), (2, .long g)]) rfl ?_
  refine g_lload_n C dX0_product_3 1 rfl rfl ?_
  refine g_lstore C dX0_product_4 (by decide) (lv' := [(6, .long f), (4, .long 0), (0, .long f), (2, .long g)]) rfl ?_
  refine g_iconst C dX0_product_6 (v := (nI 0)) (by decide) ?_
  refine g_istore C dX0_product_7 (by decide) (lv' := [(8, .int (nI 0)), (6, .long f), (4, .long 0), (0, .long f), (2, .long g)]) rfl ?_
  have L9 : ∀ (n9 : Nat) (i : Nat), 4 - i < n9 → (i ≤ 4) → gG (g_IP D s []) p l e rm_t_X0_product s m args below meth c Q 11 0 0 9 [(8, .int (nI i)), (6, .long (twN f i)), (4, .long (prN f g i)), (0, .long f), (2, .long g)] [] [] := by
    intro n9
    induction n9 with
    | zero => intro i hn; exact absurd hn (Nat.not_lt_zero _)
    | succ n9 ih9 =>
      intro i hn9 hi
      refine g_iload C dX0_product_9 0 rfl ?_
      refine g_iconst C dX0_product_11 (v := (nI 4)) (by decide) ?_
      refine g_icmp_geN C dX0_product_12 (tgt := 54) (by decide) (by omega) (by omega) (fun h12 => ?_) (fun h12 => ?_)
      · skip
        obtain rfl : i = 4 := by omega
        refine g_lload C dX0_product_54 2 rfl ?_
        exact hR _ _ _ _ dX0_product_56 (rfl)
      · skip
        refine g_lload_n C dX0_product_15 4 rfl rfl ?_
        refine g_iload C dX0_product_16 0 rfl ?_
        refine g_lushr C dX0_product_18 (v := (j_ushr g (nI i))) rfl ?_
        refine g_ldc2 C (v := (1229782938247303441)) 1 rfl dX0_product_19 ?_
        refine g_land C dX0_product_22 (v := ((j_ushr g (nI i)) &&& (1229782938247303441))) rfl ?_
        refine g_ldc2 C (v := (15)) 2 rfl dX0_product_23 ?_
        refine g_lmul C dX0_product_26 (v := (((j_ushr g (nI i)) &&& (1229782938247303441)) * (15))) rfl ?_
        refine g_lstore C dX0_product_27 (by decide) (lv' := [(9, .long (((j_ushr g (nI i)) &&& (1229782938247303441)) * (15))), (8, .int (nI i)), (6, .long (twN f i)), (4, .long (prN f g i)), (0, .long f), (2, .long g)]) rfl ?_
        refine g_lload C dX0_product_29 3 rfl ?_
        refine g_lload C dX0_product_31 2 rfl ?_
        refine g_lload C dX0_product_33 0 rfl ?_
        refine g_land C dX0_product_35 (v := ((twN f i) &&& (((j_ushr g (nI i)) &&& (1229782938247303441)) * (15)))) rfl ?_
        refine g_callPS C ⟨g_X0_ok, trivial⟩ (t_X0_sum l D ty (prN f g i) ((twN f i) &&& (((j_ushr g (nI i)) &&& (1229782938247303441)) * (15)))) rfl gX0_product_X0_sum 2 (by decide +kernel) rfl ⟨rfl, rfl⟩ ⟨Nat.le_of_ble_eq_true rfl, Nat.le_of_ble_eq_true rfl⟩ (rest := []) [] rfl (Nat.le_of_ble_eq_true rfl) dX0_product_36 ⟨Nat.le_of_ble_eq_true rfl, Nat.le_of_ble_eq_true rfl⟩ rfl (g_kl (fun r hr => ?_))
        subst hr
        refine g_lstore C dX0_product_39 (by decide) (lv' := [(4, .long (suF (prN f g i) ((twN f i) &&& (((j_ushr g (nI i)) &&& (1229782938247303441)) * (15))))), (9, .long (((j_ushr g (nI i)) &&& (1229782938247303441)) * (15))), (8, .int (nI i)), (6, .long (twN f i)), (0, .long f), (2, .long g)]) rfl ?_
        refine g_lload C dX0_product_41 3 rfl ?_
        refine g_callPS C ⟨g_X0_ok, trivial⟩ (t_X0_twice l D ty (twN f i)) rfl gX0_product_X0_twice 1 (by decide +kernel) rfl ⟨rfl, rfl⟩ ⟨Nat.le_of_ble_eq_true rfl, Nat.le_of_ble_eq_true rfl⟩ (rest := []) [] rfl (Nat.le_of_ble_eq_true rfl) dX0_product_43 ⟨Nat.le_of_ble_eq_true rfl, Nat.le_of_ble_eq_true rfl⟩ rfl (g_kl (fun r hr => ?_))
        subst hr
        refine g_lstore C dX0_product_46 (by decide) (lv' := [(6, .long (twF (twN f i))), (4, .long (suF (prN f g i) ((twN f i) &&& (((j_ushr g (nI i)) &&& (1229782938247303441)) * (15))))), (9, .long (((j_ushr g (nI i)) &&& (1229782938247303441)) * (15))), (8, .int (nI i)), (0, .long f), (2, .long g)]) rfl ?_
        refine g_iinc C dX0_product_48 3 rfl (v := (nI (i + 1))) (nI_1 i) (by decide) (lv' := [(8, .int (nI (i + 1))), (6, .long (twF (twN f i))), (4, .long (suF (prN f g i) ((twN f i) &&& (((j_ushr g (nI i)) &&& (1229782938247303441)) * (15))))), (9, .long (((j_ushr g (nI i)) &&& (1229782938247303441)) * (15))), (0, .long f), (2, .long g)]) rfl ?_
        refine g_goto C dX0_product_51 (tgt := 9) (by decide) ?_
        refine g_lv [0, 1, 2, 4, 5] rfl ?_
        exact ih9 (i + 1) (by omega) (by omega)
  exact L9 _ 0 (Nat.lt_succ_self _) (by omega)

abbrev rm_t_X0_made : Room := ({ frames := 2, cells := 0, slots := 0, locals := 53 } : Room)
set_option maxHeartbeats 4000000 in
set_option maxRecDepth 100000 in
theorem t_X0_made (l : Launch) (D : va_G) (ty : g_T3) (op : Nat) (hop : op < 10) (f g : Int64) : g_P l yX0_made wsX0_made rm_t_X0_made D ty g_X0 [.int (nI op), .long f, .long g] [] (g_pl (fun r => r = maF op f g)) := by
  refine g_ofPl (cc := cX0_made) (nL := 5) (own := RX0) (by decide) rfl rfl g_X0_ok (Nat.le_of_ble_eq_true rfl) ?_
  intro p e s m args below meth c Q C hX hR
  refine g_lv (lv' := [(0, .int (nI op)), (1, .long f), (3, .long g)]) [0, 1, 2] rfl ?_
  refine g_iload_n C dX0_made_0 0 rfl rfl ?_
  rcases (show op = 0 ∨ op = 1 ∨ op = 2 ∨ op = 3 ∨ op = 4 ∨ op = 5 ∨ op = 6 ∨ op = 7 ∨ op = 8 ∨ op = 9 by omega) with h | h | h | h | h | h | h | h | h | h
  · skip
    obtain rfl : op = 0 := by omega
    skip
    refine g_tableIn C dX0_made_1 (by decide) (by decide) (off := 51) (by decide) (tgt := 52) (by decide) ?_
    refine g_lload_n C dX0_made_52 1 rfl rfl ?_
    refine g_ldc2 C (v := (-1)) 1 rfl dX0_made_53 ?_
    refine g_lxor C dX0_made_56 (v := (f ^^^ (-1))) rfl ?_
    exact hR _ _ _ _ dX0_made_57 (rfl)
  · skip
    obtain rfl : op = 1 := by omega
    skip
    refine g_tableIn C dX0_made_1 (by decide) (by decide) (off := 57) (by decide) (tgt := 58) (by decide) ?_
    refine g_lconst C dX0_made_58 (v := 0) (by decide) ?_
    refine g_lload_n C dX0_made_59 1 rfl rfl ?_
    refine g_callPS C ⟨g_X0_ok, trivial⟩ (t_X0_difference l D ty 0 f) rfl gX0_made_X0_difference 2 (by decide +kernel) rfl ⟨rfl, rfl⟩ ⟨Nat.le_of_ble_eq_true rfl, Nat.le_of_ble_eq_true rfl⟩ (rest := []) [] rfl (Nat.le_of_ble_eq_true rfl) dX0_made_60 ⟨Nat.le_of_ble_eq_true rfl, Nat.le_of_ble_eq_true rfl⟩ rfl (g_kl (fun r hr => ?_))
    subst hr
    exact hR _ _ _ _ dX0_made_63 (rfl)
  · skip
    obtain rfl : op = 2 := by omega
    skip
    refine g_tableIn C dX0_made_1 (by decide) (by decide) (off := 63) (by decide) (tgt := 64) (by decide) ?_
    refine g_lload_n C dX0_made_64 1 rfl rfl ?_
    refine g_callPS C ⟨g_X0_ok, trivial⟩ (t_X0_twice l D ty f) rfl gX0_made_X0_twice 1 (by decide +kernel) rfl ⟨rfl, rfl⟩ ⟨Nat.le_of_ble_eq_true rfl, Nat.le_of_ble_eq_true rfl⟩ (rest := []) [] rfl (Nat.le_of_ble_eq_true rfl) dX0_made_65 ⟨Nat.le_of_ble_eq_true rfl, Nat.le_of_ble_eq_true rfl⟩ rfl (g_kl (fun r hr => ?_))
    subst hr
    exact hR _ _ _ _ dX0_made_68 (rfl)
  · skip
    obtain rfl : op = 3 := by omega
    skip
    refine g_tableIn C dX0_made_1 (by decide) (by decide) (off := 68) (by decide) (tgt := 69) (by decide) ?_
    refine g_lload_n C dX0_made_69 1 rfl rfl ?_
    refine g_iconst C dX0_made_70 (v := (nI 1)) (by decide) ?_
    refine g_lushr C dX0_made_71 (v := (j_ushr f (nI 1))) rfl ?_
    refine g_ldc2 C (v := (8608480567731124087)) 2 rfl dX0_made_72 ?_
    refine g_land C dX0_made_75 (v := ((j_ushr f (nI 1)) &&& (8608480567731124087))) rfl ?_
    exact hR _ _ _ _ dX0_made_76 (rfl)
  · skip
    obtain rfl : op = 4 := by omega
    skip
    refine g_tableIn C dX0_made_1 (by decide) (by decide) (off := 76) (by decide) (tgt := 77) (by decide) ?_
    refine g_lload_n C dX0_made_77 1 rfl rfl ?_
    refine g_lload_n C dX0_made_78 2 rfl rfl ?_
    refine g_land C dX0_made_79 (v := (f &&& g)) rfl ?_
    exact hR _ _ _ _ dX0_made_80 (rfl)
  · skip
    obtain rfl : op = 5 := by omega
    skip
    refine g_tableIn C dX0_made_1 (by decide) (by decide) (off := 80) (by decide) (tgt := 81) (by decide) ?_
    refine g_lload_n C dX0_made_81 1 rfl rfl ?_
    refine g_lload_n C dX0_made_82 2 rfl rfl ?_
    refine g_lor C dX0_made_83 (v := (f ||| g)) rfl ?_
    exact hR _ _ _ _ dX0_made_84 (rfl)
  · skip
    obtain rfl : op = 6 := by omega
    skip
    refine g_tableIn C dX0_made_1 (by decide) (by decide) (off := 84) (by decide) (tgt := 85) (by decide) ?_
    refine g_lload_n C dX0_made_85 1 rfl rfl ?_
    refine g_lload_n C dX0_made_86 2 rfl rfl ?_
    refine g_lxor C dX0_made_87 (v := (f ^^^ g)) rfl ?_
    exact hR _ _ _ _ dX0_made_88 (rfl)
  · skip
    obtain rfl : op = 7 := by omega
    skip
    refine g_tableIn C dX0_made_1 (by decide) (by decide) (off := 88) (by decide) (tgt := 89) (by decide) ?_
    refine g_lload_n C dX0_made_89 1 rfl rfl ?_
    refine g_lload_n C dX0_made_90 2 rfl rfl ?_
    refine g_callPS C ⟨g_X0_ok, trivial⟩ (t_X0_sum l D ty f g) rfl gX0_made_X0_sum 2 (by decide +kernel) rfl ⟨rfl, rfl⟩ ⟨Nat.le_of_ble_eq_true rfl, Nat.le_of_ble_eq_true rfl⟩ (rest := []) [] rfl (Nat.le_of_ble_eq_true rfl) dX0_made_91 ⟨Nat.le_of_ble_eq_true rfl, Nat.le_of_ble_eq_true rfl⟩ rfl (g_kl (fun r hr => ?_))
    subst hr
    exact hR _ _ _ _ dX0_made_94 (rfl)
  · skip
    obtain rfl : op = 8 := by omega
    skip
    refine g_tableIn C dX0_made_1 (by decide) (by decide) (off := 94) (by decide) (tgt := 95) (by decide) ?_
    refine g_lload_n C dX0_made_95 1 rfl rfl ?_
    refine g_lload_n C dX0_made_96 2 rfl rfl ?_
    refine g_callPS C ⟨g_X0_ok, trivial⟩ (t_X0_difference l D ty f g) rfl gX0_made_X0_difference 2 (by decide +kernel) rfl ⟨rfl, rfl⟩ ⟨Nat.le_of_ble_eq_true rfl, Nat.le_of_ble_eq_true rfl⟩ (rest := []) [] rfl (Nat.le_of_ble_eq_true rfl) dX0_made_97 ⟨Nat.le_of_ble_eq_true rfl, Nat.le_of_ble_eq_true rfl⟩ rfl (g_kl (fun r hr => ?_))
    subst hr
    exact hR _ _ _ _ dX0_made_100 (rfl)
  · skip
    obtain rfl : op = 9 := by omega
    skip
    refine g_tableOut C dX0_made_1 (by decide) (tgt := 101) (by decide) ?_
    refine g_lload_n C dX0_made_101 1 rfl rfl ?_
    refine g_lload_n C dX0_made_102 2 rfl rfl ?_
    refine g_callPS C ⟨g_X0_ok, trivial⟩ (t_X0_product l D ty f g) rfl gX0_made_X0_product 2 (by decide +kernel) rfl ⟨rfl, rfl⟩ ⟨Nat.le_of_ble_eq_true rfl, Nat.le_of_ble_eq_true rfl⟩ (rest := []) [] rfl (Nat.le_of_ble_eq_true rfl) dX0_made_103 ⟨Nat.le_of_ble_eq_true rfl, Nat.le_of_ble_eq_true rfl⟩ rfl (g_kl (fun r hr => ?_))
    subst hr
    exact hR _ _ _ _ dX0_made_106 (rfl)

abbrev rm_t_X0_after : Room := ({ frames := 1, cells := 0, slots := 0, locals := 22 } : Room)
set_option maxHeartbeats 4000000 in
set_option maxRecDepth 100000 in
theorem t_X0_after (l : Launch) (D : va_G) (ty : g_T3) (f g : Int64) : g_P l yX0_after wsX0_after rm_t_X0_after D ty g_X0 [.long f, .long g] [] (g_pl (fun r => r = afN f g 16)) := by
  refine g_ofPl (cc := cX0_after) (nL := 7) (own := RX0) (by decide) rfl rfl g_X0_ok (Nat.le_of_ble_eq_true rfl) ?_
  intro p e s m args below meth c Q C hX hR
  refine g_lv (lv' := [(0, .long f), (2, .long g)]) [0, 1] rfl ?_
  refine g_lconst C dX0_after_0 (v := 0) (by decide) ?_
  refine g_lstore C dX0_after_1 (by decide) (lv' := [(4, .long 0), (0, .long f), (2, .long g)]) rfl ?_
  refine g_iconst C dX0_after_3 (v := (nI 0)) (by decide) ?_
  refine g_istore C dX0_after_4 (by decide) (lv' := [(6, .int (nI 0)), (4, .long 0), (0, .long f), (2, .long g)]) rfl ?_
  have L6 : ∀ (n9 : Nat) (i : Nat), 16 - i < n9 → (i ≤ 16) → gG (g_IP D s []) p l e rm_t_X0_after s m args below meth c Q 7 0 0 6 [(6, .int (nI i)), (4, .long (afN f g i)), (0, .long f), (2, .long g)] [] [] := by
    intro n9
    induction n9 with
    | zero => intro i hn; exact absurd hn (Nat.not_lt_zero _)
    | succ n9 ih6 =>
      intro i hn6 hi
      refine g_iload C dX0_after_6 0 rfl ?_
      refine g_bipush C dX0_after_8 (v := (nI 16)) (by decide) ?_
      refine g_icmp_geN C dX0_after_10 (tgt := 40) (by decide) (by omega) (by omega) (fun h10 => ?_) (fun h10 => ?_)
      · skip
        obtain rfl : i = 16 := by omega
        refine g_lload C dX0_after_40 1 rfl ?_
        exact hR _ _ _ _ dX0_after_42 (rfl)
      · skip
        refine g_lload C dX0_after_13 1 rfl ?_
        refine g_lload_n C dX0_after_15 2 rfl rfl ?_
        refine g_lload_n C dX0_after_16 3 rfl rfl ?_
        refine g_iload C dX0_after_17 0 rfl ?_
        refine g_callPS C ⟨g_X0_ok, trivial⟩ (t_X0_valueAt l D ty g i (by omega)) rfl gX0_after_X0_valueAt 2 (by decide +kernel) rfl ⟨rfl, rfl⟩ ⟨Nat.le_of_ble_eq_true rfl, Nat.le_of_ble_eq_true rfl⟩ (rest := [.long f, .long (afN f g i)]) [] rfl (Nat.le_of_ble_eq_true rfl) dX0_after_19 ⟨Nat.le_of_ble_eq_true rfl, Nat.le_of_ble_eq_true rfl⟩ rfl (g_ki (fun r hr => ?_))
        subst hr
        have := nib_lt g i
        refine g_callPS C ⟨g_X0_ok, trivial⟩ (t_X0_valueAt l D ty f (nib g i) (by omega)) rfl gX0_after_X0_valueAt 2 (by decide +kernel) rfl ⟨rfl, rfl⟩ ⟨Nat.le_of_ble_eq_true rfl, Nat.le_of_ble_eq_true rfl⟩ (rest := [.long (afN f g i)]) [] rfl (Nat.le_of_ble_eq_true rfl) dX0_after_22 ⟨Nat.le_of_ble_eq_true rfl, Nat.le_of_ble_eq_true rfl⟩ rfl (g_ki (fun r hr => ?_))
        subst hr
        have := nib_lt f (nib g i)
        refine g_i2l C dX0_after_25 (v := (Int32.toInt64 (nI (nib f (nib g i))))) rfl ?_
        refine g_iconst C dX0_after_26 (v := (nI 4)) (by decide) ?_
        refine g_iload C dX0_after_27 0 rfl ?_
        refine g_imul C dX0_after_29 (v := (nI (4 * i))) (pk_mul _ _) ?_
        refine g_lshl C dX0_after_30 (v := (j_shl (Int32.toInt64 (nI (nib f (nib g i)))) (nI (4 * i)))) rfl ?_
        refine g_lor C dX0_after_31 (v := (afN f g (i + 1))) rfl ?_
        refine g_lstore C dX0_after_32 (by decide) (lv' := [(4, .long (afN f g (i + 1))), (6, .int (nI i)), (0, .long f), (2, .long g)]) rfl ?_
        refine g_iinc C dX0_after_34 1 rfl (v := (nI (i + 1))) (nI_1 i) (by decide) (lv' := [(6, .int (nI (i + 1))), (4, .long (afN f g (i + 1))), (0, .long f), (2, .long g)]) rfl ?_
        refine g_goto C dX0_after_37 (tgt := 6) (by decide) ?_
        exact ih6 (i + 1) (by omega) (by omega)
  exact L6 _ 0 (Nat.lt_succ_self _) (by omega)

abbrev rm_t_X0_inverseOf : Room := ({ frames := 1, cells := 0, slots := 0, locals := 22 } : Room)
set_option maxHeartbeats 4000000 in
set_option maxRecDepth 100000 in
theorem t_X0_inverseOf (l : Launch) (D : va_G) (ty : g_T3) (f : Int64) : g_P l yX0_inverseOf wsX0_inverseOf rm_t_X0_inverseOf D ty g_X0 [.long f] [] (g_pl (fun r => r = ivN f 16)) := by
  refine g_ofPl (cc := cX0_inverseOf) (nL := 5) (own := RX0) (by decide) rfl rfl g_X0_ok (Nat.le_of_ble_eq_true rfl) ?_
  intro p e s m args below meth c Q C hX hR
  refine g_lv (lv' := [(0, .long f)]) [0] rfl ?_
  refine g_lconst C dX0_inverseOf_0 (v := 0) (by decide) ?_
  refine g_lstore_n C dX0_inverseOf_1 rfl (by decide) (lv' := [(2, .long 0), (0, .long f)]) rfl ?_
  refine g_iconst C dX0_inverseOf_2 (v := (nI 0)) (by decide) ?_
  refine g_istore C dX0_inverseOf_3 (by decide) (lv' := [(4, .int (nI 0)), (2, .long 0), (0, .long f)]) rfl ?_
  have L5 : ∀ (n9 : Nat) (i : Nat), 16 - i < n9 → (i ≤ 16) → gG (g_IP D s []) p l e rm_t_X0_inverseOf s m args below meth c Q 5 0 0 5 [(4, .int (nI i)), (2, .long (ivN f i)), (0, .long f)] [] [] := by
    intro n9
    induction n9 with
    | zero => intro i hn; exact absurd hn (Nat.not_lt_zero _)
    | succ n9 ih5 =>
      intro i hn5 hi
      refine g_iload C dX0_inverseOf_5 0 rfl ?_
      refine g_bipush C dX0_inverseOf_7 (v := (nI 16)) (by decide) ?_
      refine g_icmp_geN C dX0_inverseOf_9 (tgt := 33) (by decide) (by omega) (by omega) (fun h9 => ?_) (fun h9 => ?_)
      · skip
        obtain rfl : i = 16 := by omega
        refine g_lload_n C dX0_inverseOf_33 1 rfl rfl ?_
        exact hR _ _ _ _ dX0_inverseOf_34 (rfl)
      · skip
        refine g_lload_n C dX0_inverseOf_12 1 rfl rfl ?_
        refine g_iload C dX0_inverseOf_13 0 rfl ?_
        refine g_i2l C dX0_inverseOf_15 (v := (Int32.toInt64 (nI i))) rfl ?_
        refine g_iconst C dX0_inverseOf_16 (v := (nI 4)) (by decide) ?_
        refine g_lload_n C dX0_inverseOf_17 2 rfl rfl ?_
        refine g_iload C dX0_inverseOf_18 0 rfl ?_
        refine g_callPS C ⟨g_X0_ok, trivial⟩ (t_X0_valueAt l D ty f i (by omega)) rfl gX0_inverseOf_X0_valueAt 2 (by decide +kernel) rfl ⟨rfl, rfl⟩ ⟨Nat.le_of_ble_eq_true rfl, Nat.le_of_ble_eq_true rfl⟩ (rest := [.int (nI 4), .long (Int32.toInt64 (nI i)), .long (ivN f i)]) [] rfl (Nat.le_of_ble_eq_true rfl) dX0_inverseOf_20 ⟨Nat.le_of_ble_eq_true rfl, Nat.le_of_ble_eq_true rfl⟩ rfl (g_ki (fun r hr => ?_))
        subst hr
        have := nib_lt f i
        refine g_imul C dX0_inverseOf_23 (v := (nI (4 * (nib f i)))) (pk_mul _ _) ?_
        refine g_lshl C dX0_inverseOf_24 (v := (j_shl (Int32.toInt64 (nI i)) (nI (4 * (nib f i))))) rfl ?_
        refine g_lor C dX0_inverseOf_25 (v := (ivN f (i + 1))) rfl ?_
        refine g_lstore_n C dX0_inverseOf_26 rfl (by decide) (lv' := [(2, .long (ivN f (i + 1))), (4, .int (nI i)), (0, .long f)]) rfl ?_
        refine g_iinc C dX0_inverseOf_27 1 rfl (v := (nI (i + 1))) (nI_1 i) (by decide) (lv' := [(4, .int (nI (i + 1))), (2, .long (ivN f (i + 1))), (0, .long f)]) rfl ?_
        refine g_goto C dX0_inverseOf_30 (tgt := 5) (by decide) ?_
        exact ih5 (i + 1) (by omega) (by omega)
  exact L5 _ 0 (Nat.lt_succ_self _) (by omega)

abbrev rm_t_J13_bitCount_95d88 : Room := ({ frames := 0, cells := 0, slots := 0, locals := 0 } : Room)
set_option maxHeartbeats 4000000 in
set_option maxRecDepth 100000 in
theorem t_J13_bitCount_95d88 (l : Launch) (D : va_G) (ty : g_T3) (x : Int64) : g_P l yJ13_bitCount_95d88 wsJ13_bitCount_95d88 rm_t_J13_bitCount_95d88 D ty g_X0 [.long x] [] (g_pi (fun r => r = lbc x)) := by
  refine g_ofPi (cc := cJ13_bitCount_95d88) (nL := 2) (own := RJ13) (by decide) rfl rfl g_X0_ok (Nat.le_of_ble_eq_true rfl) ?_
  intro p e s m args below meth c Q C hX hR
  refine g_lv (lv' := [(0, .long x)]) [0] rfl ?_
  refine g_lload_n C dJ13_bitCount_95d88_0 0 rfl rfl ?_
  refine g_lload_n C dJ13_bitCount_95d88_1 0 rfl rfl ?_
  refine g_iconst C dJ13_bitCount_95d88_2 (v := (nI 1)) (by decide) ?_
  refine g_lushr C dJ13_bitCount_95d88_3 (v := (j_ushr x (nI 1))) rfl ?_
  refine g_ldc2 C (v := (6148914691236517205)) 1 rfl dJ13_bitCount_95d88_4 ?_
  refine g_land C dJ13_bitCount_95d88_7 (v := ((j_ushr x (nI 1)) &&& (6148914691236517205))) rfl ?_
  refine g_lsub C dJ13_bitCount_95d88_8 (v := (lb1 x)) rfl ?_
  refine g_lstore_n C dJ13_bitCount_95d88_9 rfl (by decide) (lv' := [(0, .long (lb1 x))]) rfl ?_
  refine g_lload_n C dJ13_bitCount_95d88_10 0 rfl rfl ?_
  refine g_ldc2 C (v := (3689348814741910323)) 2 rfl dJ13_bitCount_95d88_11 ?_
  refine g_land C dJ13_bitCount_95d88_14 (v := ((lb1 x) &&& (3689348814741910323))) rfl ?_
  refine g_lload_n C dJ13_bitCount_95d88_15 0 rfl rfl ?_
  refine g_iconst C dJ13_bitCount_95d88_16 (v := (nI 2)) (by decide) ?_
  refine g_lushr C dJ13_bitCount_95d88_17 (v := (j_ushr (lb1 x) (nI 2))) rfl ?_
  refine g_ldc2 C (v := (3689348814741910323)) 2 rfl dJ13_bitCount_95d88_18 ?_
  refine g_land C dJ13_bitCount_95d88_21 (v := ((j_ushr (lb1 x) (nI 2)) &&& (3689348814741910323))) rfl ?_
  refine g_ladd C dJ13_bitCount_95d88_22 (v := (lb2 (lb1 x))) rfl ?_
  refine g_lstore_n C dJ13_bitCount_95d88_23 rfl (by decide) (lv' := [(0, .long (lb2 (lb1 x)))]) rfl ?_
  refine g_lload_n C dJ13_bitCount_95d88_24 0 rfl rfl ?_
  refine g_lload_n C dJ13_bitCount_95d88_25 0 rfl rfl ?_
  refine g_iconst C dJ13_bitCount_95d88_26 (v := (nI 4)) (by decide) ?_
  refine g_lushr C dJ13_bitCount_95d88_27 (v := (j_ushr (lb2 (lb1 x)) (nI 4))) rfl ?_
  refine g_ladd C dJ13_bitCount_95d88_28 (v := ((lb2 (lb1 x)) + (j_ushr (lb2 (lb1 x)) (nI 4)))) rfl ?_
  refine g_ldc2 C (v := (1085102592571150095)) 3 rfl dJ13_bitCount_95d88_29 ?_
  refine g_land C dJ13_bitCount_95d88_32 (v := (lb3 (lb2 (lb1 x)))) rfl ?_
  refine g_lstore_n C dJ13_bitCount_95d88_33 rfl (by decide) (lv' := [(0, .long (lb3 (lb2 (lb1 x))))]) rfl ?_
  refine g_lload_n C dJ13_bitCount_95d88_34 0 rfl rfl ?_
  refine g_lload_n C dJ13_bitCount_95d88_35 0 rfl rfl ?_
  refine g_bipush C dJ13_bitCount_95d88_36 (v := (nI 8)) (by decide) ?_
  refine g_lushr C dJ13_bitCount_95d88_38 (v := (j_ushr (lb3 (lb2 (lb1 x))) (nI 8))) rfl ?_
  refine g_ladd C dJ13_bitCount_95d88_39 (v := (lb4 (lb3 (lb2 (lb1 x))) 8)) rfl ?_
  refine g_lstore_n C dJ13_bitCount_95d88_40 rfl (by decide) (lv' := [(0, .long (lb4 (lb3 (lb2 (lb1 x))) 8))]) rfl ?_
  refine g_lload_n C dJ13_bitCount_95d88_41 0 rfl rfl ?_
  refine g_lload_n C dJ13_bitCount_95d88_42 0 rfl rfl ?_
  refine g_bipush C dJ13_bitCount_95d88_43 (v := (nI 16)) (by decide) ?_
  refine g_lushr C dJ13_bitCount_95d88_45 (v := (j_ushr (lb4 (lb3 (lb2 (lb1 x))) 8) (nI 16))) rfl ?_
  refine g_ladd C dJ13_bitCount_95d88_46 (v := (lb4 (lb4 (lb3 (lb2 (lb1 x))) 8) 16)) rfl ?_
  refine g_lstore_n C dJ13_bitCount_95d88_47 rfl (by decide) (lv' := [(0, .long (lb4 (lb4 (lb3 (lb2 (lb1 x))) 8) 16))]) rfl ?_
  refine g_lload_n C dJ13_bitCount_95d88_48 0 rfl rfl ?_
  refine g_lload_n C dJ13_bitCount_95d88_49 0 rfl rfl ?_
  refine g_bipush C dJ13_bitCount_95d88_50 (v := (nI 32)) (by decide) ?_
  refine g_lushr C dJ13_bitCount_95d88_52 (v := (j_ushr (lb4 (lb4 (lb3 (lb2 (lb1 x))) 8) 16) (nI 32))) rfl ?_
  refine g_ladd C dJ13_bitCount_95d88_53 (v := (lb4 (lb4 (lb4 (lb3 (lb2 (lb1 x))) 8) 16) 32)) rfl ?_
  refine g_lstore_n C dJ13_bitCount_95d88_54 rfl (by decide) (lv' := [(0, .long (lb4 (lb4 (lb4 (lb3 (lb2 (lb1 x))) 8) 16) 32))]) rfl ?_
  refine g_lload_n C dJ13_bitCount_95d88_55 0 rfl rfl ?_
  refine g_l2i C dJ13_bitCount_95d88_56 (v := (Int64.toInt32 (lb4 (lb4 (lb4 (lb3 (lb2 (lb1 x))) 8) 16) 32))) rfl ?_
  refine g_bipush C dJ13_bitCount_95d88_57 (v := (nI 127)) (by decide) ?_
  refine g_iand C dJ13_bitCount_95d88_59 (v := ((Int64.toInt32 (lb4 (lb4 (lb4 (lb3 (lb2 (lb1 x))) 8) 16) 32)) &&& (nI 127))) rfl ?_
  exact hR _ _ _ _ dJ13_bitCount_95d88_60 (rfl)

abbrev rm_t_J6_bitCount_0f7a4 : Room := ({ frames := 0, cells := 0, slots := 0, locals := 0 } : Room)
set_option maxHeartbeats 4000000 in
set_option maxRecDepth 100000 in
theorem t_J6_bitCount_0f7a4 (l : Launch) (D : va_G) (ty : g_T3) (x : Int32) : g_P l yJ6_bitCount_0f7a4 wsJ6_bitCount_0f7a4 rm_t_J6_bitCount_0f7a4 D ty g_X0 [.int x] [] (g_pi (fun r => r = ibc x)) := by
  refine g_ofPi (cc := cJ6_bitCount_0f7a4) (nL := 1) (own := RJ6) (by decide) rfl rfl g_X0_ok (Nat.le_of_ble_eq_true rfl) ?_
  intro p e s m args below meth c Q C hX hR
  refine g_lv (lv' := [(0, .int x)]) [0] rfl ?_
  refine g_iload_n C dJ6_bitCount_0f7a4_0 0 rfl rfl ?_
  refine g_iload_n C dJ6_bitCount_0f7a4_1 0 rfl rfl ?_
  refine g_iconst C dJ6_bitCount_0f7a4_2 (v := (nI 1)) (by decide) ?_
  refine g_iushr C dJ6_bitCount_0f7a4_3 (v := (i_ushr x (nI 1))) rfl ?_
  refine g_ldcw C (v := (nI 1431655765)) 1 rfl dJ6_bitCount_0f7a4_4 ?_
  refine g_iand C dJ6_bitCount_0f7a4_7 (v := ((i_ushr x (nI 1)) &&& (nI 1431655765))) rfl ?_
  refine g_isub C dJ6_bitCount_0f7a4_8 (v := (ib1 x)) rfl ?_
  refine g_istore_n C dJ6_bitCount_0f7a4_9 rfl (by decide) (lv' := [(0, .int (ib1 x))]) rfl ?_
  refine g_iload_n C dJ6_bitCount_0f7a4_10 0 rfl rfl ?_
  refine g_ldcw C (v := (nI 858993459)) 2 rfl dJ6_bitCount_0f7a4_11 ?_
  refine g_iand C dJ6_bitCount_0f7a4_14 (v := ((ib1 x) &&& (nI 858993459))) rfl ?_
  refine g_iload_n C dJ6_bitCount_0f7a4_15 0 rfl rfl ?_
  refine g_iconst C dJ6_bitCount_0f7a4_16 (v := (nI 2)) (by decide) ?_
  refine g_iushr C dJ6_bitCount_0f7a4_17 (v := (i_ushr (ib1 x) (nI 2))) rfl ?_
  refine g_ldcw C (v := (nI 858993459)) 2 rfl dJ6_bitCount_0f7a4_18 ?_
  refine g_iand C dJ6_bitCount_0f7a4_21 (v := ((i_ushr (ib1 x) (nI 2)) &&& (nI 858993459))) rfl ?_
  refine g_iadd C dJ6_bitCount_0f7a4_22 (v := (ib2 (ib1 x))) rfl ?_
  refine g_istore_n C dJ6_bitCount_0f7a4_23 rfl (by decide) (lv' := [(0, .int (ib2 (ib1 x)))]) rfl ?_
  refine g_iload_n C dJ6_bitCount_0f7a4_24 0 rfl rfl ?_
  refine g_iload_n C dJ6_bitCount_0f7a4_25 0 rfl rfl ?_
  refine g_iconst C dJ6_bitCount_0f7a4_26 (v := (nI 4)) (by decide) ?_
  refine g_iushr C dJ6_bitCount_0f7a4_27 (v := (i_ushr (ib2 (ib1 x)) (nI 4))) rfl ?_
  refine g_iadd C dJ6_bitCount_0f7a4_28 (v := ((ib2 (ib1 x)) + (i_ushr (ib2 (ib1 x)) (nI 4)))) rfl ?_
  refine g_ldcw C (v := (nI 252645135)) 3 rfl dJ6_bitCount_0f7a4_29 ?_
  refine g_iand C dJ6_bitCount_0f7a4_32 (v := (ib3 (ib2 (ib1 x)))) rfl ?_
  refine g_istore_n C dJ6_bitCount_0f7a4_33 rfl (by decide) (lv' := [(0, .int (ib3 (ib2 (ib1 x))))]) rfl ?_
  refine g_iload_n C dJ6_bitCount_0f7a4_34 0 rfl rfl ?_
  refine g_iload_n C dJ6_bitCount_0f7a4_35 0 rfl rfl ?_
  refine g_bipush C dJ6_bitCount_0f7a4_36 (v := (nI 8)) (by decide) ?_
  refine g_iushr C dJ6_bitCount_0f7a4_38 (v := (i_ushr (ib3 (ib2 (ib1 x))) (nI 8))) rfl ?_
  refine g_iadd C dJ6_bitCount_0f7a4_39 (v := (ib4 (ib3 (ib2 (ib1 x))) 8)) rfl ?_
  refine g_istore_n C dJ6_bitCount_0f7a4_40 rfl (by decide) (lv' := [(0, .int (ib4 (ib3 (ib2 (ib1 x))) 8))]) rfl ?_
  refine g_iload_n C dJ6_bitCount_0f7a4_41 0 rfl rfl ?_
  refine g_iload_n C dJ6_bitCount_0f7a4_42 0 rfl rfl ?_
  refine g_bipush C dJ6_bitCount_0f7a4_43 (v := (nI 16)) (by decide) ?_
  refine g_iushr C dJ6_bitCount_0f7a4_45 (v := (i_ushr (ib4 (ib3 (ib2 (ib1 x))) 8) (nI 16))) rfl ?_
  refine g_iadd C dJ6_bitCount_0f7a4_46 (v := (ib4 (ib4 (ib3 (ib2 (ib1 x))) 8) 16)) rfl ?_
  refine g_istore_n C dJ6_bitCount_0f7a4_47 rfl (by decide) (lv' := [(0, .int (ib4 (ib4 (ib3 (ib2 (ib1 x))) 8) 16))]) rfl ?_
  refine g_iload_n C dJ6_bitCount_0f7a4_48 0 rfl rfl ?_
  refine g_bipush C dJ6_bitCount_0f7a4_49 (v := (nI 63)) (by decide) ?_
  refine g_iand C dJ6_bitCount_0f7a4_51 (v := ((ib4 (ib4 (ib3 (ib2 (ib1 x))) 8) 16) &&& (nI 63))) rfl ?_
  exact hR _ _ _ _ dJ6_bitCount_0f7a4_52 (rfl)

abbrev rm_t_X0_countDifferences : Room := ({ frames := 1, cells := 0, slots := 0, locals := 21 } : Room)
set_option maxHeartbeats 4000000 in
set_option maxRecDepth 100000 in
theorem t_X0_countDifferences (l : Launch) (D : va_G) (ty : g_T3) (f g : Int64) : g_P l yX0_countDifferences wsX0_countDifferences rm_t_X0_countDifferences D ty g_X0 [.long f, .long g] [] (g_pi (fun r => r = lbc (dfF f g))) := by
  refine g_ofPi (cc := cX0_countDifferences) (nL := 6) (own := RX0) (by decide) rfl rfl g_X0_ok (Nat.le_of_ble_eq_true rfl) ?_
  intro p e s m args below meth c Q C hX hR
  refine g_lv (lv' := [(0, .long f), (2, .long g)]) [0, 1] rfl ?_
  refine g_lload_n C dX0_countDifferences_0 0 rfl rfl ?_
  refine g_lload_n C dX0_countDifferences_1 1 rfl rfl ?_
  refine g_lxor C dX0_countDifferences_2 (v := (f ^^^ g)) rfl ?_
  refine g_lstore C dX0_countDifferences_3 (by decide) (lv' := [(4, .long (f ^^^ g)), (0, .long f), (2, .long g)]) rfl ?_
  refine g_lload C dX0_countDifferences_5 0 rfl ?_
  refine g_lload C dX0_countDifferences_7 0 rfl ?_
  refine g_iconst C dX0_countDifferences_9 (v := (nI 2)) (by decide) ?_
  refine g_lushr C dX0_countDifferences_10 (v := (j_ushr (f ^^^ g) (nI 2))) rfl ?_
  refine g_lor C dX0_countDifferences_11 (v := ((f ^^^ g) ||| (j_ushr (f ^^^ g) (nI 2)))) rfl ?_
  refine g_lstore C dX0_countDifferences_12 (by decide) (lv' := [(4, .long ((f ^^^ g) ||| (j_ushr (f ^^^ g) (nI 2)))), (0, .long f), (2, .long g)]) rfl ?_
  refine g_lload C dX0_countDifferences_14 0 rfl ?_
  refine g_lload C dX0_countDifferences_16 0 rfl ?_
  refine g_iconst C dX0_countDifferences_18 (v := (nI 1)) (by decide) ?_
  refine g_lushr C dX0_countDifferences_19 (v := (j_ushr ((f ^^^ g) ||| (j_ushr (f ^^^ g) (nI 2))) (nI 1))) rfl ?_
  refine g_lor C dX0_countDifferences_20 (v := (((f ^^^ g) ||| (j_ushr (f ^^^ g) (nI 2))) ||| (j_ushr ((f ^^^ g) ||| (j_ushr (f ^^^ g) (nI 2))) (nI 1)))) rfl ?_
  refine g_lstore C dX0_countDifferences_21 (by decide) (lv' := [(4, .long (((f ^^^ g) ||| (j_ushr (f ^^^ g) (nI 2))) ||| (j_ushr ((f ^^^ g) ||| (j_ushr (f ^^^ g) (nI 2))) (nI 1)))), (0, .long f), (2, .long g)]) rfl ?_
  refine g_lload C dX0_countDifferences_23 0 rfl ?_
  refine g_ldc2 C (v := (1229782938247303441)) 1 rfl dX0_countDifferences_25 ?_
  refine g_land C dX0_countDifferences_28 (v := (dfF f g)) rfl ?_
  refine g_callPS C ⟨g_X0_ok, trivial⟩ (t_J13_bitCount_95d88 l D ty (dfF f g)) rfl gX0_countDifferences_J13_bitCount_95d88 1 (by decide +kernel) rfl ⟨rfl, rfl⟩ ⟨Nat.le_of_ble_eq_true rfl, Nat.le_of_ble_eq_true rfl⟩ (rest := []) [] rfl (Nat.le_of_ble_eq_true rfl) dX0_countDifferences_29 ⟨Nat.le_of_ble_eq_true rfl, Nat.le_of_ble_eq_true rfl⟩ rfl (g_ki (fun r hr => ?_))
  subst hr
  exact hR _ _ _ _ dX0_countDifferences_32 (rfl)

abbrev rm_t_X0_image : Room := ({ frames := 1, cells := 0, slots := 0, locals := 22 } : Room)
set_option maxHeartbeats 4000000 in
set_option maxRecDepth 100000 in
theorem t_X0_image (l : Launch) (D : va_G) (ty : g_T3) (f : Int64) (sv : Nat) (hs : sv < 65536) : g_P l yX0_image wsX0_image rm_t_X0_image D ty g_X0 [.long f, .int (nI sv)] [] (g_pi (fun r => r = nI (imF f sv))) := by
  refine g_ofPi (cc := cX0_image) (nL := 5) (own := RX0) (by decide) rfl rfl g_X0_ok (Nat.le_of_ble_eq_true rfl) ?_
  intro p e s m args below meth c Q C hX hR
  refine g_lv (lv' := [(0, .long f), (2, .int (nI sv))]) [0, 1] rfl ?_
  refine g_iconst C dX0_image_0 (v := (nI 0)) (by decide) ?_
  refine g_istore_n C dX0_image_1 rfl (by decide) (lv' := [(3, .int (nI 0)), (0, .long f), (2, .int (nI sv))]) rfl ?_
  refine g_iconst C dX0_image_2 (v := (nI 0)) (by decide) ?_
  refine g_istore C dX0_image_3 (by decide) (lv' := [(4, .int (nI 0)), (3, .int (nI 0)), (0, .long f), (2, .int (nI sv))]) rfl ?_
  have L5 : ∀ (n9 : Nat) (i v : Nat), 16 - i < n9 → (i ≤ 16) → (v = imN f sv i) → gG (g_IP D s []) p l e rm_t_X0_image s m args below meth c Q 5 0 0 5 [(4, .int (nI i)), (3, .int (nI v)), (0, .long f), (2, .int (nI sv))] [] [] := by
    intro n9
    induction n9 with
    | zero => intro i v hn; exact absurd hn (Nat.not_lt_zero _)
    | succ n9 ih5 =>
      intro i v hn5 hi hv
      refine g_iload C dX0_image_5 0 rfl ?_
      refine g_bipush C dX0_image_7 (v := (nI 16)) (by decide) ?_
      refine g_icmp_geN C dX0_image_9 (tgt := 39) (by decide) (by omega) (by omega) (fun h9 => ?_) (fun h9 => ?_)
      · skip
        obtain rfl : i = 16 := by omega
        subst hv
        refine g_iload_n C dX0_image_39 1 rfl rfl ?_
        exact hR _ _ _ _ dX0_image_40 (rfl)
      · skip
        refine g_iload_n C dX0_image_12 3 rfl rfl ?_
        refine g_iload C dX0_image_13 0 rfl ?_
        refine g_iushr C dX0_image_15 (v := (nI (sv / 2 ^ i))) (ni_ushr (by omega) (by omega)) ?_
        refine g_iconst C dX0_image_16 (v := (nI 1)) (by decide) ?_
        refine g_iand C dX0_image_17 (v := (nI ((sv / 2 ^ i) % 2))) (ni_and1 _) ?_
        refine g_iconst C dX0_image_18 (v := (nI 1)) (by decide) ?_
        refine g_icmp_neN C dX0_image_19 (tgt := 33) (by decide) (by omega) (by omega) (fun h19 => ?_) (fun h19 => ?_)
        · skip
          refine g_iinc C dX0_image_33 0 rfl (v := (nI (i + 1))) (nI_1 i) (by decide) (lv' := [(4, .int (nI (i + 1))), (3, .int (nI v)), (0, .long f), (2, .int (nI sv))]) rfl ?_
          refine g_goto C dX0_image_36 (tgt := 5) (by decide) ?_
          exact ih5 (i + 1) _ (by omega) (by omega) (by rw [hv]; first | exact (imN_1 (by omega)).symm | exact (imN_0 (by omega)).symm)
        · skip
          refine g_iload_n C dX0_image_22 1 rfl rfl ?_
          refine g_iconst C dX0_image_23 (v := (nI 1)) (by decide) ?_
          refine g_lload_n C dX0_image_24 2 rfl rfl ?_
          refine g_iload C dX0_image_25 0 rfl ?_
          refine g_callPS C ⟨g_X0_ok, trivial⟩ (t_X0_valueAt l D ty f i (by omega)) rfl gX0_image_X0_valueAt 2 (by decide +kernel) rfl ⟨rfl, rfl⟩ ⟨Nat.le_of_ble_eq_true rfl, Nat.le_of_ble_eq_true rfl⟩ (rest := [.int (nI 1), .int (nI v)]) [] rfl (Nat.le_of_ble_eq_true rfl) dX0_image_27 ⟨Nat.le_of_ble_eq_true rfl, Nat.le_of_ble_eq_true rfl⟩ rfl (g_ki (fun r hr => ?_))
          subst hr
          have := nib_lt f i
          refine g_ishl C dX0_image_30 (v := (nI (2 ^ (nib f i)))) (ni_shl1 (by omega)) ?_
          refine g_ior C dX0_image_31 (v := (nI (v ||| (2 ^ (nib f i))))) (nior _ _) ?_
          refine g_istore_n C dX0_image_32 rfl (by decide) (lv' := [(3, .int (nI (v ||| (2 ^ (nib f i))))), (4, .int (nI i)), (0, .long f), (2, .int (nI sv))]) rfl ?_
          refine g_iinc C dX0_image_33 1 rfl (v := (nI (i + 1))) (nI_1 i) (by decide) (lv' := [(4, .int (nI (i + 1))), (3, .int (nI (v ||| (2 ^ (nib f i))))), (0, .long f), (2, .int (nI sv))]) rfl ?_
          refine g_goto C dX0_image_36 (tgt := 5) (by decide) ?_
          exact ih5 (i + 1) _ (by omega) (by omega) (by rw [hv]; first | exact (imN_1 (by omega)).symm | exact (imN_0 (by omega)).symm)
  exact L5 _ 0 0 (Nat.lt_succ_self _) (by omega) rfl

abbrev rm_t_X0_countValues : Room := ({ frames := 2, cells := 0, slots := 0, locals := 46 } : Room)
set_option maxHeartbeats 4000000 in
set_option maxRecDepth 100000 in
theorem t_X0_countValues (l : Launch) (D : va_G) (ty : g_T3) (f : Int64) : g_P l yX0_countValues wsX0_countValues rm_t_X0_countValues D ty g_X0 [.long f] [] (g_pi (fun r => r = ibc (nI (imF f 65535)))) := by
  refine g_ofPi (cc := cX0_countValues) (nL := 2) (own := RX0) (by decide) rfl rfl g_X0_ok (Nat.le_of_ble_eq_true rfl) ?_
  intro p e s m args below meth c Q C hX hR
  refine g_lv (lv' := [(0, .long f)]) [0] rfl ?_
  refine g_lload_n C dX0_countValues_0 0 rfl rfl ?_
  refine g_ldc C (v := (nI 65535)) 1 rfl dX0_countValues_1 ?_
  refine g_callPS C ⟨g_X0_ok, trivial⟩ (t_X0_image l D ty f 65535 (by omega)) rfl gX0_countValues_X0_image 2 (by decide +kernel) rfl ⟨rfl, rfl⟩ ⟨Nat.le_of_ble_eq_true rfl, Nat.le_of_ble_eq_true rfl⟩ (rest := []) [] rfl (Nat.le_of_ble_eq_true rfl) dX0_countValues_3 ⟨Nat.le_of_ble_eq_true rfl, Nat.le_of_ble_eq_true rfl⟩ rfl (g_ki (fun r hr => ?_))
  subst hr
  have : imF f 65535 < 65536 := imN_lt _ _ 16
  refine g_callPS C ⟨g_X0_ok, trivial⟩ (t_J6_bitCount_0f7a4 l D ty (nI (imF f 65535))) rfl gX0_countValues_J6_bitCount_0f7a4 1 (by decide +kernel) rfl ⟨rfl, rfl⟩ ⟨Nat.le_of_ble_eq_true rfl, Nat.le_of_ble_eq_true rfl⟩ (rest := []) [] rfl (Nat.le_of_ble_eq_true rfl) dX0_countValues_6 ⟨Nat.le_of_ble_eq_true rfl, Nat.le_of_ble_eq_true rfl⟩ rfl (g_ki (fun r hr => ?_))
  subst hr
  exact hR _ _ _ _ dX0_countValues_9 (rfl)

abbrev rm_t_X0_returningInputs : Room := ({ frames := 2, cells := 0, slots := 0, locals := 46 } : Room)
set_option maxHeartbeats 4000000 in
set_option maxRecDepth 100000 in
theorem t_X0_returningInputs (l : Launch) (D : va_G) (ty : g_T3) (f : Int64) : g_P l yX0_returningInputs wsX0_returningInputs rm_t_X0_returningInputs D ty g_X0 [.long f] [] (g_pi (fun r => r = nI (itF f 16))) := by
  refine g_ofPi (cc := cX0_returningInputs) (nL := 4) (own := RX0) (by decide) rfl rfl g_X0_ok (Nat.le_of_ble_eq_true rfl) ?_
  intro p e s m args below meth c Q C hX hR
  refine g_lv (lv' := [(0, .long f)]) [0] rfl ?_
  refine g_ldc C (v := (nI 65535)) 1 rfl dX0_returningInputs_0 ?_
  refine g_istore_n C dX0_returningInputs_2 rfl (by decide) (lv' := [(2, .int (nI 65535)), (0, .long f)]) rfl ?_
  refine g_iconst C dX0_returningInputs_3 (v := (nI 0)) (by decide) ?_
  refine g_istore_n C dX0_returningInputs_4 rfl (by decide) (lv' := [(3, .int (nI 0)), (2, .int (nI 65535)), (0, .long f)]) rfl ?_
  have L5 : ∀ (n9 : Nat) (i : Nat), 16 - i < n9 → (i ≤ 16) → gG (g_IP D s []) p l e rm_t_X0_returningInputs s m args below meth c Q 4 0 0 5 [(3, .int (nI i)), (2, .int (nI (itF f i))), (0, .long f)] [] [] := by
    intro n9
    induction n9 with
    | zero => intro i hn; exact absurd hn (Nat.not_lt_zero _)
    | succ n9 ih5 =>
      intro i hn5 hi
      have := itF_lt f i
      refine g_iload_n C dX0_returningInputs_5 0 rfl rfl ?_
      refine g_bipush C dX0_returningInputs_6 (v := (nI 16)) (by decide) ?_
      refine g_icmp_geN C dX0_returningInputs_8 (tgt := 23) (by decide) (by omega) (by omega) (fun h8 => ?_) (fun h8 => ?_)
      · skip
        obtain rfl : i = 16 := by omega
        refine g_iload_n C dX0_returningInputs_23 1 rfl rfl ?_
        exact hR _ _ _ _ dX0_returningInputs_24 (rfl)
      · skip
        refine g_lload_n C dX0_returningInputs_11 2 rfl rfl ?_
        refine g_iload_n C dX0_returningInputs_12 1 rfl rfl ?_
        refine g_callPS C ⟨g_X0_ok, trivial⟩ (t_X0_image l D ty f (itF f i) (by omega)) rfl gX0_returningInputs_X0_image 2 (by decide +kernel) rfl ⟨rfl, rfl⟩ ⟨Nat.le_of_ble_eq_true rfl, Nat.le_of_ble_eq_true rfl⟩ (rest := []) [] rfl (Nat.le_of_ble_eq_true rfl) dX0_returningInputs_13 ⟨Nat.le_of_ble_eq_true rfl, Nat.le_of_ble_eq_true rfl⟩ rfl (g_ki (fun r hr => ?_))
        subst hr
        have : imF f (itF f i) < 65536 := imN_lt _ _ 16
        refine g_istore_n C dX0_returningInputs_16 rfl (by decide) (lv' := [(2, .int (nI (imF f (itF f i)))), (3, .int (nI i)), (0, .long f)]) rfl ?_
        refine g_iinc C dX0_returningInputs_17 1 rfl (v := (nI (i + 1))) (nI_1 i) (by decide) (lv' := [(3, .int (nI (i + 1))), (2, .int (nI (imF f (itF f i)))), (0, .long f)]) rfl ?_
        refine g_goto C dX0_returningInputs_20 (tgt := 5) (by decide) ?_
        exact ih5 (i + 1) (by omega) (by omega)
  exact L5 _ 0 (Nat.lt_succ_self _) (by omega)

abbrev rm_t_X0_stepsToReturning : Room := ({ frames := 3, cells := 0, slots := 0, locals := 69 } : Room)
set_option maxHeartbeats 4000000 in
set_option maxRecDepth 100000 in
theorem t_X0_stepsToReturning (l : Launch) (D : va_G) (ty : g_T3) (f : Int64) : g_P l yX0_stepsToReturning wsX0_stepsToReturning rm_t_X0_stepsToReturning D ty g_X0 [.long f] [] (g_pi (fun r => ∃ n, r = nI n ∧ isStp f n)) := by
  refine g_ofPi (cc := cX0_stepsToReturning) (nL := 5) (own := RX0) (by decide) rfl rfl g_X0_ok (Nat.le_of_ble_eq_true rfl) ?_
  intro p e s m args below meth c Q C hX hR
  refine g_lv (lv' := [(0, .long f)]) [0] rfl ?_
  refine g_lload_n C dX0_stepsToReturning_0 0 rfl rfl ?_
  refine g_callPS C ⟨g_X0_ok, trivial⟩ (t_X0_returningInputs l D ty f) rfl gX0_stepsToReturning_X0_returningInputs 1 (by decide +kernel) rfl ⟨rfl, rfl⟩ ⟨Nat.le_of_ble_eq_true rfl, Nat.le_of_ble_eq_true rfl⟩ (rest := []) [] rfl (Nat.le_of_ble_eq_true rfl) dX0_stepsToReturning_1 ⟨Nat.le_of_ble_eq_true rfl, Nat.le_of_ble_eq_true rfl⟩ rfl (g_ki (fun r hr => ?_))
  subst hr
  have := itF_lt f 16
  refine g_istore_n C dX0_stepsToReturning_4 rfl (by decide) (lv' := [(2, .int (nI (itF f 16))), (0, .long f)]) rfl ?_
  refine g_ldc C (v := (nI 65535)) 1 rfl dX0_stepsToReturning_5 ?_
  refine g_istore_n C dX0_stepsToReturning_7 rfl (by decide) (lv' := [(3, .int (nI 65535)), (2, .int (nI (itF f 16))), (0, .long f)]) rfl ?_
  refine g_iconst C dX0_stepsToReturning_8 (v := (nI 0)) (by decide) ?_
  refine g_istore C dX0_stepsToReturning_9 (by decide) (lv' := [(4, .int (nI 0)), (3, .int (nI 65535)), (2, .int (nI (itF f 16))), (0, .long f)]) rfl ?_
  have L11 : ∀ (n9 : Nat) (i : Nat), 16 - i < n9 → (i ≤ 16) → (∀ j, j < i → itF f j ≠ itF f 16) → gG (g_IP D s []) p l e rm_t_X0_stepsToReturning s m args below meth c Q 5 0 0 11 [(4, .int (nI i)), (3, .int (nI (itF f i))), (2, .int (nI (itF f 16))), (0, .long f)] [] [] := by
    intro n9
    induction n9 with
    | zero => intro i hn; exact absurd hn (Nat.not_lt_zero _)
    | succ n9 ih11 =>
      intro i hn11 hi hj
      have := itF_lt f i
      refine g_iload C dX0_stepsToReturning_11 0 rfl ?_
      refine g_bipush C dX0_stepsToReturning_13 (v := (nI 16)) (by decide) ?_
      refine g_icmp_geN C dX0_stepsToReturning_15 (tgt := 35) (by decide) (by omega) (by omega) (fun h15 => ?_) (fun h15 => ?_)
      · skip
        obtain rfl : i = 16 := by omega
        refine g_iload C dX0_stepsToReturning_35 0 rfl ?_
        exact hR _ _ _ _ dX0_stepsToReturning_37 (⟨_, rfl, hi, by first | rfl | omega, hj⟩)
      · skip
        refine g_iload_n C dX0_stepsToReturning_18 1 rfl rfl ?_
        refine g_iload_n C dX0_stepsToReturning_19 2 rfl rfl ?_
        refine g_icmp_eqN C dX0_stepsToReturning_20 (tgt := 35) (by decide) (by omega) (by omega) (fun h20 => ?_) (fun h20 => ?_)
        · skip
          refine g_iload C dX0_stepsToReturning_35 0 rfl ?_
          exact hR _ _ _ _ dX0_stepsToReturning_37 (⟨_, rfl, hi, by first | rfl | omega, hj⟩)
        · skip
          refine g_lload_n C dX0_stepsToReturning_23 3 rfl rfl ?_
          refine g_iload_n C dX0_stepsToReturning_24 1 rfl rfl ?_
          refine g_callPS C ⟨g_X0_ok, trivial⟩ (t_X0_image l D ty f (itF f i) (by omega)) rfl gX0_stepsToReturning_X0_image 2 (by decide +kernel) rfl ⟨rfl, rfl⟩ ⟨Nat.le_of_ble_eq_true rfl, Nat.le_of_ble_eq_true rfl⟩ (rest := []) [] rfl (Nat.le_of_ble_eq_true rfl) dX0_stepsToReturning_25 ⟨Nat.le_of_ble_eq_true rfl, Nat.le_of_ble_eq_true rfl⟩ rfl (g_ki (fun r hr => ?_))
          subst hr
          have : imF f (itF f i) < 65536 := imN_lt _ _ 16
          refine g_istore_n C dX0_stepsToReturning_28 rfl (by decide) (lv' := [(3, .int (nI (imF f (itF f i)))), (4, .int (nI i)), (2, .int (nI (itF f 16))), (0, .long f)]) rfl ?_
          refine g_iinc C dX0_stepsToReturning_29 1 rfl (v := (nI (i + 1))) (nI_1 i) (by decide) (lv' := [(4, .int (nI (i + 1))), (3, .int (nI (imF f (itF f i)))), (2, .int (nI (itF f 16))), (0, .long f)]) rfl ?_
          refine g_goto C dX0_stepsToReturning_32 (tgt := 11) (by decide) ?_
          exact ih11 (i + 1) (by omega) (by omega) (fun j h => (Nat.lt_or_ge j i).elim (hj j) (fun q => by rw [show j = i by omega]; omega))
  exact L11 _ 0 (Nat.lt_succ_self _) (by omega) (fun j h => absurd h (Nat.not_lt_zero j))




abbrev rm_t_X0_maskOf : Room := ({ frames := 0, cells := 0, slots := 0, locals := 0 } : Room)
set_option maxHeartbeats 4000000 in
set_option maxRecDepth 100000 in
theorem t_X0_maskOf (l : Launch) (D : va_G) (ty : g_T3) (sv : Nat) (hs : sv < 65536) : g_P l yX0_maskOf wsX0_maskOf rm_t_X0_maskOf D ty g_X0 [.int (nI sv)] [] (g_pl (fun r => r = mkN sv 16)) := by
  refine g_ofPl (cc := cX0_maskOf) (nL := 4) (own := RX0) (by decide) rfl rfl g_X0_ok (Nat.le_of_ble_eq_true rfl) ?_
  intro p e s m args below meth c Q C hX hR
  refine g_lv (lv' := [(0, .int (nI sv))]) [0] rfl ?_
  refine g_lconst C dX0_maskOf_0 (v := 0) (by decide) ?_
  refine g_lstore_n C dX0_maskOf_1 rfl (by decide) (lv' := [(1, .long 0), (0, .int (nI sv))]) rfl ?_
  refine g_iconst C dX0_maskOf_2 (v := (nI 0)) (by decide) ?_
  refine g_istore_n C dX0_maskOf_3 rfl (by decide) (lv' := [(3, .int (nI 0)), (1, .long 0), (0, .int (nI sv))]) rfl ?_
  have L4 : ∀ (n9 : Nat) (i : Nat) (v : Int64), 16 - i < n9 → (i ≤ 16) → (v = mkN sv i) → gG (g_IP D s []) p l e rm_t_X0_maskOf s m args below meth c Q 4 0 0 4 [(3, .int (nI i)), (1, .long v), (0, .int (nI sv))] [] [] := by
    intro n9
    induction n9 with
    | zero => intro i v hn; exact absurd hn (Nat.not_lt_zero _)
    | succ n9 ih4 =>
      intro i v hn4 hi hv
      refine g_iload_n C dX0_maskOf_4 0 rfl rfl ?_
      refine g_bipush C dX0_maskOf_5 (v := (nI 16)) (by decide) ?_
      refine g_icmp_geN C dX0_maskOf_7 (tgt := 35) (by decide) (by omega) (by omega) (fun h7 => ?_) (fun h7 => ?_)
      · skip
        obtain rfl : i = 16 := by omega
        subst hv
        refine g_lload_n C dX0_maskOf_35 1 rfl rfl ?_
        exact hR _ _ _ _ dX0_maskOf_36 (rfl)
      · skip
        refine g_iload_n C dX0_maskOf_10 2 rfl rfl ?_
        refine g_iload_n C dX0_maskOf_11 0 rfl rfl ?_
        refine g_iushr C dX0_maskOf_12 (v := (nI (sv / 2 ^ i))) (ni_ushr (by omega) (by omega)) ?_
        refine g_iconst C dX0_maskOf_13 (v := (nI 1)) (by decide) ?_
        refine g_iand C dX0_maskOf_14 (v := (nI ((sv / 2 ^ i) % 2))) (ni_and1 _) ?_
        refine g_iconst C dX0_maskOf_15 (v := (nI 1)) (by decide) ?_
        refine g_icmp_neN C dX0_maskOf_16 (tgt := 29) (by decide) (by omega) (by omega) (fun h16 => ?_) (fun h16 => ?_)
        · skip
          refine g_iinc C dX0_maskOf_29 0 rfl (v := (nI (i + 1))) (nI_1 i) (by decide) (lv' := [(3, .int (nI (i + 1))), (1, .long v), (0, .int (nI sv))]) rfl ?_
          refine g_goto C dX0_maskOf_32 (tgt := 4) (by decide) ?_
          exact ih4 (i + 1) _ (by omega) (by omega) (by rw [hv]; first | exact (mkN_1 (by omega)).symm | exact (mkN_0 (by omega)).symm)
        · skip
          refine g_lload_n C dX0_maskOf_19 1 rfl rfl ?_
          refine g_ldc2 C (v := (15)) 1 rfl dX0_maskOf_20 ?_
          refine g_iconst C dX0_maskOf_23 (v := (nI 4)) (by decide) ?_
          refine g_iload_n C dX0_maskOf_24 0 rfl rfl ?_
          refine g_imul C dX0_maskOf_25 (v := (nI (4 * i))) (pk_mul _ _) ?_
          refine g_lshl C dX0_maskOf_26 (v := (j_shl (15) (nI (4 * i)))) rfl ?_
          refine g_lor C dX0_maskOf_27 (v := (v ||| (j_shl (15) (nI (4 * i))))) rfl ?_
          refine g_lstore_n C dX0_maskOf_28 rfl (by decide) (lv' := [(1, .long (v ||| (j_shl (15) (nI (4 * i))))), (3, .int (nI i)), (0, .int (nI sv))]) rfl ?_
          refine g_iinc C dX0_maskOf_29 1 rfl (v := (nI (i + 1))) (nI_1 i) (by decide) (lv' := [(3, .int (nI (i + 1))), (1, .long (v ||| (j_shl (15) (nI (4 * i))))), (0, .int (nI sv))]) rfl ?_
          refine g_goto C dX0_maskOf_32 (tgt := 4) (by decide) ?_
          exact ih4 (i + 1) _ (by omega) (by omega) (by rw [hv]; first | exact (mkN_1 (by omega)).symm | exact (mkN_0 (by omega)).symm)
  exact L4 _ 0 _ (Nat.lt_succ_self _) (by omega) rfl


abbrev rm_t_X1_put : Room := ({ frames := 0, cells := 0, slots := 0, locals := 0 } : Room)
set_option maxHeartbeats 4000000 in
set_option maxRecDepth 100000 in
theorem t_X1_put (l : Launch) (D : va_G) (ty : g_T3) (p0 py : Nat) (pb : Nat → Nat) (nv : Nat) (b : Nat) (hn : nv < 30) : g_U l yX1_put wsX1_put rm_t_X1_put D ty g_X0 [.ref p0, .int (nI b)] [(p0, .inr (0, [.int (nI nv), .ref py])), (py, .inl (ty.1, 30, .inl (zN pb)))] 0 0 (g_uv (fun w => w = [(p0, .inr (0, [.int (nI (nv + 1)), .ref py])), (py, .inl (ty.1, 30, .inl (zN (va_up pb nv b))))])) := by
  refine g_ofUv (cc := cX1_put) (nL := 2) (own := RX1) (by decide) rfl rfl g_X0_ok (Nat.le_of_ble_eq_true rfl) ?_
  intro p e s m args below meth c Q A C hA hX hin hR
  refine g_lv (lv' := [(0, .ref p0), (1, .int (nI b))]) [0, 1] rfl ?_
  refine g_aload_n C dX1_put_0 0 rfl rfl ?_
  refine g_get C 0 rfl rfl 0 (by decide) (fun _ h => (List.mem_cons_of_mem _ (List.mem_append_right _ h))) 1 rfl rfl rfl dX1_put_1 ?_
  refine g_bipush C dX1_put_4 (v := (nI 30)) (by decide) ?_
  refine g_icmp_geN C dX1_put_6 (tgt := 29) (by decide) (by omega) (by omega) (fun h6 => ?_) (fun h6 => ?_)
  · skip
    exact absurd h6 (by omega)
  · skip
    refine g_aload_n C dX1_put_9 0 rfl rfl ?_
    refine g_get C 0 rfl rfl 1 (by decide) (fun _ h => (List.mem_cons_of_mem _ (List.mem_append_right _ h))) 2 rfl rfl rfl dX1_put_10 ?_
    refine g_aload_n C dX1_put_13 0 rfl rfl ?_
    refine g_get C 0 rfl rfl 0 (by decide) (fun _ h => (List.mem_cons_of_mem _ (List.mem_append_right _ h))) 1 rfl rfl rfl dX1_put_14 ?_
    refine g_iload_n C dX1_put_17 1 rfl rfl ?_
    refine g_iast C 1 rfl (by omega) (by omega) (f' := zN (va_up pb nv b)) (zN_upd _ _ _) (ws' := [(p0, .inr (0, [.int (nI nv), .ref py])), (py, .inl (ty.1, 30, .inl (zN (va_up pb nv b))))]) rfl dX1_put_18 ?_
    refine g_aload_n C dX1_put_19 0 rfl rfl ?_
    refine g_dup C dX1_put_20 rfl ?_
    refine g_get C 0 rfl rfl 0 (by decide) (fun _ h => (List.mem_cons_of_mem _ (List.mem_append_right _ h))) 1 rfl rfl rfl dX1_put_21 ?_
    refine g_iconst C dX1_put_24 (v := (nI 1)) (by decide) ?_
    refine g_iadd C dX1_put_25 (v := (nI (nv + 1))) (nI_add _ _) ?_
    refine g_put C 0 rfl rfl 0 (by decide) (fun _ h => (List.mem_cons_of_mem _ (List.mem_append_right _ h))) 1 rfl rfl tyX1 tyX1_ok nmX1 rfl rfl rfl rfl (Nat.le_of_ble_eq_true rfl) (ws' := [(p0, .inr (0, [.int (nI (nv + 1)), .ref py])), (py, .inl (ty.1, 30, .inl (zN (va_up pb nv b))))]) rfl dX1_put_26 ?_
    refine hR _ _ _ _ _ dX1_put_29 ?_ (by omega) (by omega)
    rfl

abbrev rm_t_X1_putNumber : Room := ({ frames := 1, cells := 0, slots := 0, locals := 21 } : Room)
set_option maxHeartbeats 4000000 in
set_option maxRecDepth 100000 in
theorem t_X1_putNumber (l : Launch) (D : va_G) (ty : g_T3) (p0 py : Nat) (pb : Nat → Nat) (nv : Nat) (v : Nat) (hv : v < 16) (hn : nv + (nmL v).length ≤ 30) : g_U l yX1_putNumber wsX1_putNumber rm_t_X1_putNumber D ty g_X0 [.ref p0, .int (nI v)] [(p0, .inr (0, [.int (nI nv), .ref py])), (py, .inl (ty.1, 30, .inl (zN pb)))] 0 0 (g_uv (fun w => w = [(p0, .inr (0, [.int (nI (nv + (nmL v).length)), .ref py])), (py, .inl (ty.1, 30, .inl (zN (apL pb nv (nmL v)))))])) := by
  refine g_ofUv (cc := cX1_putNumber) (nL := 2) (own := RX1) (by decide) rfl rfl g_X0_ok (Nat.le_of_ble_eq_true rfl) ?_
  intro p e s m args below meth c Q A C hA hX hin hR
  refine g_lv (lv' := [(0, .ref p0), (1, .int (nI v))]) [0, 1] rfl ?_
  refine g_iload_n C dX1_putNumber_0 1 rfl rfl ?_
  refine g_bipush C dX1_putNumber_1 (v := (nI 10)) (by decide) ?_
  refine g_icmp_ltN C dX1_putNumber_3 (tgt := 17) (by decide) (by omega) (by omega) (fun h3 => ?_) (fun h3 => ?_)
  · skip
    have L17 : ∀ (n9 : Nat) (pb2 : Nat → Nat) (n2 : Nat), 0 < n9 → (n2 + 1 = nv + (nmL v).length) → (apL pb2 n2 [48 + v % 10] = apL pb nv (nmL v)) → gG (g_IU A D s) p l e rm_t_X1_putNumber s m args below meth c Q 2 0 0 17 [(0, .ref p0), (1, .int (nI v))] [] [(p0, .inr (0, [.int (nI n2), .ref py])), (py, .inl (ty.1, 30, .inl (zN pb2)))] := by
      intro n9
      induction n9 with
      | zero => intro pb2 n2 hn; exact absurd hn (Nat.not_lt_zero _)
      | succ n9 ih17 =>
        intro pb2 n2 hn17 hn2 hp2
        refine g_aload_n C dX1_putNumber_17 0 rfl rfl ?_
        refine g_bipush C dX1_putNumber_18 (v := (nI 48)) (by decide) ?_
        refine g_iload_n C dX1_putNumber_20 1 rfl rfl ?_
        refine g_bipush C dX1_putNumber_21 (v := (nI 10)) (by decide) ?_
        refine g_irem C dX1_putNumber_23 (by decide) (v := (nI (v % 10))) (pk_rem (by omega) (by decide) (by decide)) ?_
        refine g_iadd C dX1_putNumber_24 (v := (nI (48 + (v % 10)))) (nI_add _ _) ?_
        refine g_callUV C ⟨g_X0_ok, trivial⟩ (t_X1_put l D ty p0 py pb2 n2 (48 + (v % 10)) (by omega)) rfl gX1_putNumber_X1_put 1 (by decide +kernel) rfl ⟨rfl, rfl⟩ ⟨Nat.le_of_ble_eq_true rfl, Nat.le_of_ble_eq_true rfl⟩ (rest := []) (q0 := 0) rfl rfl hA [0, 1] [] rfl rfl rfl (wr := []) rfl rfl rfl (Nat.le_of_ble_eq_true rfl) dX1_putNumber_25 ⟨Nat.le_of_ble_eq_true rfl, Nat.le_of_ble_eq_true rfl⟩ rfl (g_kuv (fun w hr => ?_))
        subst hr
        refine g_ws (ws' := [(p0, .inr (0, [.int (nI (n2 + 1)), .ref py])), (py, .inl (ty.1, 30, .inl (zN (va_up pb2 n2 (48 + (v % 10))))))]) [0, 1] rfl rfl rfl ?_
        refine hR _ _ _ _ _ dX1_putNumber_28 ?_ (by omega) (by omega)
        rw [← hn2, ← hp2]
        rfl
    exact L17 _ pb nv (Nat.lt_succ_self _) (by first | (rw [show nmL v = [48 + v / 10, 48 + v % 10] from if_pos h3]; rfl) | (rw [show nmL v = [48 + v % 10] from if_neg (by omega)]; rfl)) (by first | (rw [show nmL v = [48 + v / 10, 48 + v % 10] from if_pos h3]; rfl) | (rw [show nmL v = [48 + v % 10] from if_neg (by omega)]))
  · skip
    have hlen : (nmL v).length = 2 := by rw [show nmL v = [48 + v / 10, 48 + v % 10] from if_pos h3]; rfl
    refine g_aload_n C dX1_putNumber_6 0 rfl rfl ?_
    refine g_bipush C dX1_putNumber_7 (v := (nI 48)) (by decide) ?_
    refine g_iload_n C dX1_putNumber_9 1 rfl rfl ?_
    refine g_bipush C dX1_putNumber_10 (v := (nI 10)) (by decide) ?_
    refine g_idiv C dX1_putNumber_12 (by decide) (v := (nI (v / 10))) (pk_div (by omega) (by decide) (by decide)) ?_
    refine g_iadd C dX1_putNumber_13 (v := (nI (48 + (v / 10)))) (nI_add _ _) ?_
    refine g_callUV C ⟨g_X0_ok, trivial⟩ (t_X1_put l D ty p0 py pb nv (48 + (v / 10)) (by omega)) rfl gX1_putNumber_X1_put 1 (by decide +kernel) rfl ⟨rfl, rfl⟩ ⟨Nat.le_of_ble_eq_true rfl, Nat.le_of_ble_eq_true rfl⟩ (rest := []) (q0 := 0) rfl rfl hA [0, 1] [] rfl rfl rfl (wr := []) rfl rfl rfl (Nat.le_of_ble_eq_true rfl) dX1_putNumber_14 ⟨Nat.le_of_ble_eq_true rfl, Nat.le_of_ble_eq_true rfl⟩ rfl (g_kuv (fun w hr => ?_))
    subst hr
    refine g_ws (ws' := [(p0, .inr (0, [.int (nI (nv + 1)), .ref py])), (py, .inl (ty.1, 30, .inl (zN (va_up pb nv (48 + (v / 10))))))]) [0, 1] rfl rfl rfl ?_
    have L17 : ∀ (n9 : Nat) (pb2 : Nat → Nat) (n2 : Nat), 0 < n9 → (n2 + 1 = nv + (nmL v).length) → (apL pb2 n2 [48 + v % 10] = apL pb nv (nmL v)) → gG (g_IU A D s) p l e rm_t_X1_putNumber s m args below meth c Q 2 0 0 17 [(0, .ref p0), (1, .int (nI v))] [] [(p0, .inr (0, [.int (nI n2), .ref py])), (py, .inl (ty.1, 30, .inl (zN pb2)))] := by
      intro n9
      induction n9 with
      | zero => intro pb2 n2 hn; exact absurd hn (Nat.not_lt_zero _)
      | succ n9 ih17 =>
        intro pb2 n2 hn17 hn2 hp2
        refine g_aload_n C dX1_putNumber_17 0 rfl rfl ?_
        refine g_bipush C dX1_putNumber_18 (v := (nI 48)) (by decide) ?_
        refine g_iload_n C dX1_putNumber_20 1 rfl rfl ?_
        refine g_bipush C dX1_putNumber_21 (v := (nI 10)) (by decide) ?_
        refine g_irem C dX1_putNumber_23 (by decide) (v := (nI (v % 10))) (pk_rem (by omega) (by decide) (by decide)) ?_
        refine g_iadd C dX1_putNumber_24 (v := (nI (48 + (v % 10)))) (nI_add _ _) ?_
        refine g_callUV C ⟨g_X0_ok, trivial⟩ (t_X1_put l D ty p0 py pb2 n2 (48 + (v % 10)) (by omega)) rfl gX1_putNumber_X1_put 1 (by decide +kernel) rfl ⟨rfl, rfl⟩ ⟨Nat.le_of_ble_eq_true rfl, Nat.le_of_ble_eq_true rfl⟩ (rest := []) (q0 := 0) rfl rfl hA [0, 1] [] rfl rfl rfl (wr := []) rfl rfl rfl (Nat.le_of_ble_eq_true rfl) dX1_putNumber_25 ⟨Nat.le_of_ble_eq_true rfl, Nat.le_of_ble_eq_true rfl⟩ rfl (g_kuv (fun w hr => ?_))
        subst hr
        refine g_ws (ws' := [(p0, .inr (0, [.int (nI (n2 + 1)), .ref py])), (py, .inl (ty.1, 30, .inl (zN (va_up pb2 n2 (48 + (v % 10))))))]) [0, 1] rfl rfl rfl ?_
        refine hR _ _ _ _ _ dX1_putNumber_28 ?_ (by omega) (by omega)
        rw [← hn2, ← hp2]
        rfl
    exact L17 _ (va_up pb nv (48 + (v / 10))) (nv + 1) (Nat.lt_succ_self _) (by first | (rw [show nmL v = [48 + v / 10, 48 + v % 10] from if_pos h3]; rfl) | (rw [show nmL v = [48 + v % 10] from if_neg (by omega)]; rfl)) (by first | (rw [show nmL v = [48 + v / 10, 48 + v % 10] from if_pos h3]; rfl) | (rw [show nmL v = [48 + v % 10] from if_neg (by omega)]))

abbrev rm_t_X1_addTo : Room := ({ frames := 1, cells := 0, slots := 0, locals := 23 } : Room)
set_option maxHeartbeats 4000000 in
set_option maxRecDepth 100000 in
theorem t_X1_addTo (l : Launch) (D : va_G) (ty : g_T3) (p0 py : Nat) (pb : Nat → Nat) (nv : Nat) (hn : nv ≤ 30) (d : Int64) : g_P l yX1_addTo wsX1_addTo rm_t_X1_addTo D ty g_XN [.ref p0, .long d] [(p0, .inr (0, [.int (nI nv), .ref py])), (py, .inl (ty.1, 30, .inl (zN pb)))] (g_pl (fun r => r = dgP pb (dg1 d (lN nv)) nv)) := by
  refine g_ofPl (cc := cX1_addTo) (nL := 6) (own := RX1) (by decide) rfl rfl g_XN_ok (Nat.le_of_ble_eq_true rfl) ?_
  intro p e s m args below meth c Q C hX hR
  refine g_lv (lv' := [(0, .ref p0), (1, .long d)]) [0, 1] rfl ?_
  refine g_lload_n C dX1_addTo_0 1 rfl rfl ?_
  refine g_aload_n C dX1_addTo_1 0 rfl rfl ?_
  refine g_get C 0 rfl rfl 0 (by decide) (fun _ h => (List.mem_cons_of_mem _ (List.mem_append_right _ h))) 1 rfl rfl rfl dX1_addTo_2 ?_
  refine g_i2l C dX1_addTo_5 (v := (lN nv)) (nI_l (by omega)) ?_
  refine g_callPSN C ⟨g_X0_ok, trivial⟩ (t_X5_added l D ty d (lN nv)) rfl (hX.2.1 4 (by decide)) ggX1_addTo_X5_added 4 3 rfl rfl 2 (by decide +kernel) rfl ⟨rfl, rfl⟩ ⟨Nat.le_of_ble_eq_true rfl, Nat.le_of_ble_eq_true rfl⟩ (rest := []) [] rfl (Nat.le_of_ble_eq_true rfl) dX1_addTo_6 ⟨Nat.le_of_ble_eq_true rfl, Nat.le_of_ble_eq_true rfl⟩ rfl (g_kl (fun r hr => ?_))
  subst hr
  rw [show d * 31 + (lN nv) = dg1 d (lN nv) from rfl]
  refine g_lstore_n C dX1_addTo_9 rfl (by decide) (lv' := [(3, .long (dg1 d (lN nv))), (0, .ref p0), (1, .long d)]) rfl ?_
  refine g_iconst C dX1_addTo_10 (v := (nI 0)) (by decide) ?_
  refine g_istore C dX1_addTo_11 (by decide) (lv' := [(5, .int (nI 0)), (3, .long (dg1 d (lN nv))), (0, .ref p0), (1, .long d)]) rfl ?_
  have L13 : ∀ (n9 : Nat) (i : Nat), nv - i < n9 → (i ≤ nv) → gG (g_IP D s [(p0, .inr (0, [.int (nI nv), .ref py])), (py, .inl (ty.1, 30, .inl (zN pb)))]) p l e rm_t_X1_addTo s m args below meth c Q 6 0 0 13 [(5, .int (nI i)), (3, .long (dgP pb (dg1 d (lN nv)) i)), (0, .ref p0), (1, .long d)] [] [(p0, .inr (0, [.int (nI nv), .ref py])), (py, .inl (ty.1, 30, .inl (zN pb)))] := by
    intro n9
    induction n9 with
    | zero => intro i hn; exact absurd hn (Nat.not_lt_zero _)
    | succ n9 ih13 =>
      intro i hn13 hi
      refine g_iload C dX1_addTo_13 0 rfl ?_
      refine g_aload_n C dX1_addTo_15 2 rfl rfl ?_
      refine g_get C 0 rfl rfl 0 (by decide) (fun _ h => (List.mem_cons_of_mem _ (List.mem_append_right _ h))) 1 rfl rfl rfl dX1_addTo_16 ?_
      refine g_icmp_geN C dX1_addTo_19 (tgt := 41) (by decide) (by omega) (by omega) (fun h19 => ?_) (fun h19 => ?_)
      · skip
        have hie : i = nv := by omega
        refine g_lload_n C dX1_addTo_41 1 rfl rfl ?_
        exact hR _ _ _ _ dX1_addTo_42 (by rw [hie])
      · skip
        refine g_lload_n C dX1_addTo_22 1 rfl rfl ?_
        refine g_aload_n C dX1_addTo_23 2 rfl rfl ?_
        refine g_get C 0 rfl rfl 1 (by decide) (fun _ h => (List.mem_cons_of_mem _ (List.mem_append_right _ h))) 2 rfl rfl rfl dX1_addTo_24 ?_
        refine g_iload C dX1_addTo_27 0 rfl ?_
        refine g_iald C (v := (nI (pb i))) 1 rfl (by omega) (by omega) rfl dX1_addTo_29 ?_
        refine g_i2l C dX1_addTo_30 (v := (Int32.toInt64 (nI (pb i)))) rfl ?_
        refine g_callPSN C ⟨g_X0_ok, trivial⟩ (t_X5_added l D ty (dgP pb (dg1 d (lN nv)) i) (Int32.toInt64 (nI (pb i)))) rfl (hX.2.1 4 (by decide)) ggX1_addTo_X5_added 4 3 rfl rfl 2 (by decide +kernel) rfl ⟨rfl, rfl⟩ ⟨Nat.le_of_ble_eq_true rfl, Nat.le_of_ble_eq_true rfl⟩ (rest := []) [] rfl (Nat.le_of_ble_eq_true rfl) dX1_addTo_31 ⟨Nat.le_of_ble_eq_true rfl, Nat.le_of_ble_eq_true rfl⟩ rfl (g_kl (fun r hr => ?_))
        subst hr
        rw [show (dgP pb (dg1 d (lN nv)) i) * 31 + (Int32.toInt64 (nI (pb i))) = dg1 (dgP pb (dg1 d (lN nv)) i) (Int32.toInt64 (nI (pb i))) from rfl]
        refine g_lstore_n C dX1_addTo_34 rfl (by decide) (lv' := [(3, .long (dg1 (dgP pb (dg1 d (lN nv)) i) (Int32.toInt64 (nI (pb i))))), (5, .int (nI i)), (0, .ref p0), (1, .long d)]) rfl ?_
        refine g_iinc C dX1_addTo_35 1 rfl (v := (nI (i + 1))) (nI_1 i) (by decide) (lv' := [(5, .int (nI (i + 1))), (3, .long (dg1 (dgP pb (dg1 d (lN nv)) i) (Int32.toInt64 (nI (pb i))))), (0, .ref p0), (1, .long d)]) rfl ?_
        refine g_goto C dX1_addTo_38 (tgt := 13) (by decide) ?_
        exact ih13 (i + 1) (by omega) (by omega)
  exact L13 _ 0 (Nat.lt_succ_self _) (by omega)


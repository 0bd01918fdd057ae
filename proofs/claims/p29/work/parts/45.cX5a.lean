abbrev rm_t_X5_allow : Room := ({ frames := 6, cells := 1, slots := 6, locals := 82 } : Room)
set_option maxHeartbeats 4000000 in
set_option maxRecDepth 100000 in
theorem t_X5_allow (l : Launch) (hfl : l.stackTraces = false) (D : va_G) (ty : g_T3) (x0 s0 k0 p0 t0 : Nat) (sp sa sc : Nat) (al : Nat → Bool) (o : Int32) (b : Bool) : g_T l yX5_allow wsX5_allow rm_t_X5_allow D ty g_XT [.ref x0, .int o, .int (nI b.toNat)] [(x0, .inr (4, [.ref s0, .ref k0, .ref p0, .ref t0])), (s0, .inr (2, [.ref sp, .ref sa, .ref sc])), (sa, .inl (ty.2.2, 10, .inl (zB al)))] 1 6 (g_ui (fun r w => ∃ k, k ≤ 9 ∧ o = nI k ∧ r = nI (ctB (va_up al k b) 10) ∧ w = [(x0, .inr (4, [.ref s0, .ref k0, .ref p0, .ref t0])), (s0, .inr (2, [.ref sp, .ref sa, .ref sc])), (sa, .inl (ty.2.2, 10, .inl (zB (va_up al k b))))])) (fun E => (E = x_IO ∧ (o.toInt < 0 ∨ 9 < o.toInt))) := by
  refine g_ofTi hfl (cc := cX5_allow) (nL := 3) (by decide) rfl rfl (Nat.le_of_ble_eq_true rfl) ⟨Nat.le_of_ble_eq_true rfl, Nat.le_of_ble_eq_true rfl, Nat.le_of_ble_eq_true rfl, Nat.le_of_ble_eq_true rfl, Nat.le_of_ble_eq_true rfl, Nat.le_of_ble_eq_true rfl⟩ ?_
  intro p e s m args below meth c Q A C hA hX hin hTh hR
  refine g_lv (lv' := [(0, .ref x0), (1, .int o), (2, .int (nI b.toNat))]) [0, 1, 2] rfl ?_
  refine g_iload_n C dX5_allow_0 1 rfl rfl ?_
  refine g_callPS C ⟨g_X0_ok, trivial⟩ (t_X5_isOperation l D ty o) rfl gX5_allow_X5_isOperation 1 (by decide +kernel) rfl ⟨rfl, rfl⟩ ⟨Nat.le_of_ble_eq_true rfl, Nat.le_of_ble_eq_true rfl⟩ (rest := []) [] rfl (Nat.le_of_ble_eq_true rfl) dX5_allow_1 ⟨Nat.le_of_ble_eq_true rfl, Nat.le_of_ble_eq_true rfl⟩ rfl (g_ki (fun r hr => ?_))
  subst hr
  have := bt_lt (inB o (nI 0) (nI 9))
  refine g_if_neN C dX5_allow_4 (tgt := 17) (by decide) (by omega) (fun h4 => ?_) (fun h4 => ?_)
  · skip
    obtain ⟨k, hk, rfl⟩ := in_nI (by decide) h4
    refine g_aload_n C dX5_allow_17 0 rfl rfl ?_
    refine g_get C 0 rfl rfl 0 (by decide) (fun _ h => (List.mem_cons_of_mem _ (List.mem_append_left _ (List.mem_append_left _ (List.mem_append_right _ h))))) 3 rfl rfl rfl dX5_allow_18 ?_
    refine g_get C 1 rfl rfl 1 (by decide) (fun _ h => (List.mem_cons_of_mem _ (List.mem_append_left _ (List.mem_append_right _ h)))) 4 rfl rfl rfl dX5_allow_21 ?_
    refine g_iload_n C dX5_allow_24 1 rfl rfl ?_
    refine g_iload_n C dX5_allow_25 2 rfl rfl ?_
    refine g_zast C 2 rfl (by omega) (by omega) (f' := zB (va_up al k b)) (zB_upd _ _ _) (ws' := [(x0, .inr (4, [.ref s0, .ref k0, .ref p0, .ref t0])), (s0, .inr (2, [.ref sp, .ref sa, .ref sc])), (sa, .inl (ty.2.2, 10, .inl (zB (va_up al k b))))]) rfl dX5_allow_26 ?_
    refine g_aload_n C dX5_allow_27 0 rfl rfl ?_
    refine g_get C 0 rfl rfl 0 (by decide) (fun _ h => (List.mem_cons_of_mem _ (List.mem_append_left _ (List.mem_append_left _ (List.mem_append_right _ h))))) 3 rfl rfl rfl dX5_allow_28 ?_
    refine g_get C 1 rfl rfl 1 (by decide) (fun _ h => (List.mem_cons_of_mem _ (List.mem_append_left _ (List.mem_append_right _ h)))) 4 rfl rfl rfl dX5_allow_31 ?_
    refine g_callPS C ⟨g_X0_ok, trivial⟩ (t_X5_countOn l D ty sa 10 (va_up al k b) (by decide)) rfl gX5_allow_X5_countOn 1 (by decide +kernel) rfl ⟨rfl, rfl⟩ ⟨Nat.le_of_ble_eq_true rfl, Nat.le_of_ble_eq_true rfl⟩ (rest := []) [2] rfl (Nat.le_of_ble_eq_true rfl) dX5_allow_34 ⟨Nat.le_of_ble_eq_true rfl, Nat.le_of_ble_eq_true rfl⟩ rfl (g_ki (fun r hr => ?_))
    subst hr
    refine hR _ _ _ _ _ _ dX5_allow_37 ?_ (by omega) (by omega)
    exact ⟨k, hk, rfl, rfl, rfl⟩
  · skip
    have hno := in_no (by decide) h4
    exact hTh 0 0 7 41 1 2 _ _ (by decide) (by decide) (⟨rfl, by omega⟩) rfl rfl (fun _ h => (List.mem_cons_of_mem _ (List.mem_append_right _ h))) dX5_allow_7 dX5_allow_10 dX5_allow_11 dX5_allow_13 dX5_allow_16 rfl

abbrev rm_t_X5_setConstant : Room := ({ frames := 6, cells := 1, slots := 6, locals := 82 } : Room)
set_option maxHeartbeats 4000000 in
set_option maxRecDepth 100000 in
theorem t_X5_setConstant (l : Launch) (hfl : l.stackTraces = false) (D : va_G) (ty : g_T3) (x0 s0 k0 p0 t0 : Nat) (sp sa sc : Nat) (cs : Nat → Bool) (o : Int32) (b : Bool) : g_T l yX5_setConstant wsX5_setConstant rm_t_X5_setConstant D ty g_XT [.ref x0, .int o, .int (nI b.toNat)] [(x0, .inr (4, [.ref s0, .ref k0, .ref p0, .ref t0])), (s0, .inr (2, [.ref sp, .ref sa, .ref sc])), (sc, .inl (ty.2.2, 16, .inl (zB cs)))] 1 6 (g_ui (fun r w => ∃ k, k ≤ 15 ∧ o = nI k ∧ r = nI (ctB (va_up cs k b) 16) ∧ w = [(x0, .inr (4, [.ref s0, .ref k0, .ref p0, .ref t0])), (s0, .inr (2, [.ref sp, .ref sa, .ref sc])), (sc, .inl (ty.2.2, 16, .inl (zB (va_up cs k b))))])) (fun E => (E = x_IA ∧ (o.toInt < 0 ∨ 15 < o.toInt))) := by
  refine g_ofTi hfl (cc := cX5_setConstant) (nL := 3) (by decide) rfl rfl (Nat.le_of_ble_eq_true rfl) ⟨Nat.le_of_ble_eq_true rfl, Nat.le_of_ble_eq_true rfl, Nat.le_of_ble_eq_true rfl, Nat.le_of_ble_eq_true rfl, Nat.le_of_ble_eq_true rfl, Nat.le_of_ble_eq_true rfl⟩ ?_
  intro p e s m args below meth c Q A C hA hX hin hTh hR
  refine g_lv (lv' := [(0, .ref x0), (1, .int o), (2, .int (nI b.toNat))]) [0, 1, 2] rfl ?_
  refine g_iload_n C dX5_setConstant_0 1 rfl rfl ?_
  refine g_callPS C ⟨g_X0_ok, trivial⟩ (t_X5_isInput l D ty o) rfl gX5_setConstant_X5_isInput 1 (by decide +kernel) rfl ⟨rfl, rfl⟩ ⟨Nat.le_of_ble_eq_true rfl, Nat.le_of_ble_eq_true rfl⟩ (rest := []) [] rfl (Nat.le_of_ble_eq_true rfl) dX5_setConstant_1 ⟨Nat.le_of_ble_eq_true rfl, Nat.le_of_ble_eq_true rfl⟩ rfl (g_ki (fun r hr => ?_))
  subst hr
  have := bt_lt (inB o (nI 0) (nI 15))
  refine g_if_neN C dX5_setConstant_4 (tgt := 17) (by decide) (by omega) (fun h4 => ?_) (fun h4 => ?_)
  · skip
    obtain ⟨k, hk, rfl⟩ := in_nI (by decide) h4
    refine g_aload_n C dX5_setConstant_17 0 rfl rfl ?_
    refine g_get C 0 rfl rfl 0 (by decide) (fun _ h => (List.mem_cons_of_mem _ (List.mem_append_left _ (List.mem_append_left _ (List.mem_append_right _ h))))) 3 rfl rfl rfl dX5_setConstant_18 ?_
    refine g_get C 1 rfl rfl 2 (by decide) (fun _ h => (List.mem_cons_of_mem _ (List.mem_append_left _ (List.mem_append_right _ h)))) 4 rfl rfl rfl dX5_setConstant_21 ?_
    refine g_iload_n C dX5_setConstant_24 1 rfl rfl ?_
    refine g_iload_n C dX5_setConstant_25 2 rfl rfl ?_
    refine g_zast C 2 rfl (by omega) (by omega) (f' := zB (va_up cs k b)) (zB_upd _ _ _) (ws' := [(x0, .inr (4, [.ref s0, .ref k0, .ref p0, .ref t0])), (s0, .inr (2, [.ref sp, .ref sa, .ref sc])), (sc, .inl (ty.2.2, 16, .inl (zB (va_up cs k b))))]) rfl dX5_setConstant_26 ?_
    refine g_aload_n C dX5_setConstant_27 0 rfl rfl ?_
    refine g_get C 0 rfl rfl 0 (by decide) (fun _ h => (List.mem_cons_of_mem _ (List.mem_append_left _ (List.mem_append_left _ (List.mem_append_right _ h))))) 3 rfl rfl rfl dX5_setConstant_28 ?_
    refine g_get C 1 rfl rfl 2 (by decide) (fun _ h => (List.mem_cons_of_mem _ (List.mem_append_left _ (List.mem_append_right _ h)))) 4 rfl rfl rfl dX5_setConstant_31 ?_
    refine g_callPS C ⟨g_X0_ok, trivial⟩ (t_X5_countOn l D ty sc 16 (va_up cs k b) (by decide)) rfl gX5_setConstant_X5_countOn 1 (by decide +kernel) rfl ⟨rfl, rfl⟩ ⟨Nat.le_of_ble_eq_true rfl, Nat.le_of_ble_eq_true rfl⟩ (rest := []) [2] rfl (Nat.le_of_ble_eq_true rfl) dX5_setConstant_34 ⟨Nat.le_of_ble_eq_true rfl, Nat.le_of_ble_eq_true rfl⟩ rfl (g_ki (fun r hr => ?_))
    subst hr
    refine hR _ _ _ _ _ _ dX5_setConstant_37 ?_ (by omega) (by omega)
    exact ⟨k, hk, rfl, rfl, rfl⟩
  · skip
    have hno := in_no (by decide) h4
    exact hTh 1 2 7 56 1 2 _ _ (by decide) (by decide) (⟨rfl, by omega⟩) rfl rfl (fun _ h => (List.mem_cons_of_mem _ (List.mem_append_right _ h))) dX5_setConstant_7 dX5_setConstant_10 dX5_setConstant_11 dX5_setConstant_13 dX5_setConstant_16 rfl

abbrev rm_t_X5_setPrice : Room := ({ frames := 6, cells := 1, slots := 6, locals := 82 } : Room)
set_option maxHeartbeats 4000000 in
set_option maxRecDepth 100000 in
theorem t_X5_setPrice (l : Launch) (hfl : l.stackTraces = false) (D : va_G) (ty : g_T3) (x0 s0 k0 p0 t0 : Nat) (sp sa sc : Nat) (p2 : Nat → Nat) (o v : Int32) : g_T l yX5_setPrice wsX5_setPrice rm_t_X5_setPrice D ty g_XT [.ref x0, .int o, .int v] [(x0, .inr (4, [.ref s0, .ref k0, .ref p0, .ref t0])), (s0, .inr (2, [.ref sp, .ref sa, .ref sc])), (sp, .inl (ty.1, 11, .inl (zN p2)))] 1 6 (g_ui (fun r w => ∃ k u, k ≤ 10 ∧ o = nI k ∧ v = nI u ∧ (if k = 10 then 0 else 1) ≤ u ∧ u ≤ 5 ∧ r = nI (p2 k) ∧ w = [(x0, .inr (4, [.ref s0, .ref k0, .ref p0, .ref t0])), (s0, .inr (2, [.ref sp, .ref sa, .ref sc])), (sp, .inl (ty.1, 11, .inl (zN (va_up p2 k u))))])) (fun E => (E = x_IO ∧ (o.toInt < 0 ∨ 10 < o.toInt)) ∨ (E = x_IA ∧ (∃ k, k ≤ 10 ∧ o = nI k ∧ (v.toInt < (((if k = 10 then 0 else 1) : Nat) : Int) ∨ 5 < v.toInt)))) := by
  refine g_ofTi hfl (cc := cX5_setPrice) (nL := 5) (by decide) rfl rfl (Nat.le_of_ble_eq_true rfl) ⟨Nat.le_of_ble_eq_true rfl, Nat.le_of_ble_eq_true rfl, Nat.le_of_ble_eq_true rfl, Nat.le_of_ble_eq_true rfl, Nat.le_of_ble_eq_true rfl, Nat.le_of_ble_eq_true rfl⟩ ?_
  intro p e s m args below meth c Q A C hA hX hin hTh hR
  refine g_lv (lv' := [(0, .ref x0), (1, .int o), (2, .int v)]) [0, 1, 2] rfl ?_
  refine g_iload_n C dX5_setPrice_0 1 rfl rfl ?_
  refine g_callPS C ⟨g_X0_ok, trivial⟩ (t_X5_isOperation l D ty o) rfl gX5_setPrice_X5_isOperation 1 (by decide +kernel) rfl ⟨rfl, rfl⟩ ⟨Nat.le_of_ble_eq_true rfl, Nat.le_of_ble_eq_true rfl⟩ (rest := []) [] rfl (Nat.le_of_ble_eq_true rfl) dX5_setPrice_1 ⟨Nat.le_of_ble_eq_true rfl, Nat.le_of_ble_eq_true rfl⟩ rfl (g_ki (fun r hr => ?_))
  subst hr
  have := bt_lt (inB o (nI 0) (nI 9))
  refine g_if_neN C dX5_setPrice_4 (tgt := 23) (by decide) (by omega) (fun h4 => ?_) (fun h4 => ?_)
  · skip
    obtain ⟨k, hk, hok⟩ := in_nI (by decide) h4
    rw [hok]
    have L23 : ∀ (n9 : Nat) (k : Nat), 0 < n9 → (k ≤ 10) → (o = nI k) → gG (g_IU A D s) p l e rm_t_X5_setPrice s m args below meth c Q 5 0 0 23 [(0, .ref x0), (1, .int (nI k)), (2, .int v)] [] [(x0, .inr (4, [.ref s0, .ref k0, .ref p0, .ref t0])), (s0, .inr (2, [.ref sp, .ref sa, .ref sc])), (sp, .inl (ty.1, 11, .inl (zN p2)))] := by
      intro n9
      induction n9 with
      | zero => intro k hn; exact absurd hn (Nat.not_lt_zero _)
      | succ n9 ih23 =>
        intro k hn23 hk hok
        refine g_iload_n C dX5_setPrice_23 1 rfl rfl ?_
        refine g_bipush C dX5_setPrice_24 (v := (nI 10)) (by decide) ?_
        refine g_icmp_neN C dX5_setPrice_26 (tgt := 33) (by decide) (by omega) (by omega) (fun h26 => ?_) (fun h26 => ?_)
        · skip
          refine g_iconst C dX5_setPrice_33 (v := (nI 1)) (by decide) ?_
          have L34 : ∀ (n9 : Nat) (lo : Nat), 0 < n9 → (lo = (if k = 10 then 0 else 1)) → (lo ≤ 1) → gG (g_IU A D s) p l e rm_t_X5_setPrice s m args below meth c Q 5 0 0 34 [(0, .ref x0), (1, .int (nI k)), (2, .int v)] [.int (nI lo)] [(x0, .inr (4, [.ref s0, .ref k0, .ref p0, .ref t0])), (s0, .inr (2, [.ref sp, .ref sa, .ref sc])), (sp, .inl (ty.1, 11, .inl (zN p2)))] := by
            intro n9
            induction n9 with
            | zero => intro lo hn; exact absurd hn (Nat.not_lt_zero _)
            | succ n9 ih34 =>
              intro lo hn34 hlo hlo1
              refine g_istore_n C dX5_setPrice_34 rfl (by decide) (lv' := [(3, .int (nI lo)), (0, .ref x0), (1, .int (nI k)), (2, .int v)]) rfl ?_
              refine g_iload_n C dX5_setPrice_35 3 rfl rfl ?_
              refine g_iload_n C dX5_setPrice_36 0 rfl rfl ?_
              refine g_icmp_lt C dX5_setPrice_37 (tgt := 45) (by decide) (fun h37 => ?_) (fun h37 => ?_)
              · skip
                rw [nI_toInt (by omega)] at h37
                have L45 : ∀ (n9 : Nat) , 0 < n9 → (v.toInt < (lo : Int) ∨ 5 < v.toInt) → gG (g_IU A D s) p l e rm_t_X5_setPrice s m args below meth c Q 5 0 0 45 [(0, .ref x0), (1, .int (nI k)), (2, .int v)] [] [(x0, .inr (4, [.ref s0, .ref k0, .ref p0, .ref t0])), (s0, .inr (2, [.ref sp, .ref sa, .ref sc])), (sp, .inl (ty.1, 11, .inl (zN p2)))] := by
                  intro n9
                  induction n9 with
                  | zero => intro  hn; exact absurd hn (Nat.not_lt_zero _)
                  | succ n9 ih45 =>
                    intro  hn45 hbad
                    exact hTh 1 1 45 56 3 4 _ _ (by decide) (by decide) (Or.inr (⟨rfl, k, hk, hok, by rw [← hlo]; exact hbad⟩)) rfl rfl (fun _ h => (List.mem_cons_of_mem _ (List.mem_append_right _ h))) dX5_setPrice_45 dX5_setPrice_48 dX5_setPrice_49 dX5_setPrice_51 dX5_setPrice_54 rfl
                refine g_lv [1, 2, 3] rfl ?_
                exact L45 _  (Nat.lt_succ_self _) (by omega)
              · skip
                rw [nI_toInt (by omega)] at h37
                refine g_iload_n C dX5_setPrice_40 3 rfl rfl ?_
                refine g_iconst C dX5_setPrice_41 (v := (nI 5)) (by decide) ?_
                refine g_icmp_le C dX5_setPrice_42 (tgt := 55) (by decide) (fun h42 => ?_) (fun h42 => ?_)
                · skip
                  rw [nI_toInt (by decide)] at h42
                  obtain ⟨u, hu, rfl⟩ := nI_of_int (x := v) (n := 5) (by omega) (by omega)
                  rw [nI_toInt (by omega)] at h37
                  refine g_aload_n C dX5_setPrice_55 1 rfl rfl ?_
                  refine g_get C 0 rfl rfl 0 (by decide) (fun _ h => (List.mem_cons_of_mem _ (List.mem_append_left _ (List.mem_append_left _ (List.mem_append_left _ (List.mem_append_right _ h)))))) 5 rfl rfl rfl dX5_setPrice_56 ?_
                  refine g_get C 1 rfl rfl 0 (by decide) (fun _ h => (List.mem_cons_of_mem _ (List.mem_append_left _ (List.mem_append_left _ (List.mem_append_right _ h))))) 6 rfl rfl rfl dX5_setPrice_59 ?_
                  refine g_iload_n C dX5_setPrice_62 2 rfl rfl ?_
                  refine g_iald C (v := (nI (p2 k))) 2 rfl (by omega) (by omega) rfl dX5_setPrice_63 ?_
                  refine g_istore C dX5_setPrice_64 (by decide) (lv' := [(4, .int (nI (p2 k))), (3, .int (nI lo)), (0, .ref x0), (1, .int (nI k)), (2, .int (nI u))]) rfl ?_
                  refine g_aload_n C dX5_setPrice_66 2 rfl rfl ?_
                  refine g_get C 0 rfl rfl 0 (by decide) (fun _ h => (List.mem_cons_of_mem _ (List.mem_append_left _ (List.mem_append_left _ (List.mem_append_left _ (List.mem_append_right _ h)))))) 5 rfl rfl rfl dX5_setPrice_67 ?_
                  refine g_get C 1 rfl rfl 0 (by decide) (fun _ h => (List.mem_cons_of_mem _ (List.mem_append_left _ (List.mem_append_left _ (List.mem_append_right _ h))))) 6 rfl rfl rfl dX5_setPrice_70 ?_
                  refine g_iload_n C dX5_setPrice_73 3 rfl rfl ?_
                  refine g_iload_n C dX5_setPrice_74 4 rfl rfl ?_
                  refine g_iast C 2 rfl (by omega) (by omega) (f' := zN (va_up p2 k u)) (zN_upd _ _ _) (ws' := [(x0, .inr (4, [.ref s0, .ref k0, .ref p0, .ref t0])), (s0, .inr (2, [.ref sp, .ref sa, .ref sc])), (sp, .inl (ty.1, 11, .inl (zN (va_up p2 k u))))]) rfl dX5_setPrice_75 ?_
                  refine g_iload C dX5_setPrice_76 0 rfl ?_
                  refine hR _ _ _ _ _ _ dX5_setPrice_78 ?_ (by omega) (by omega)
                  exact ⟨k, u, hk, hok, rfl, by omega, hu, rfl, rfl⟩
                · skip
                  rw [nI_toInt (by decide)] at h42
                  have L45 : ∀ (n9 : Nat) , 0 < n9 → (v.toInt < (lo : Int) ∨ 5 < v.toInt) → gG (g_IU A D s) p l e rm_t_X5_setPrice s m args below meth c Q 5 0 0 45 [(0, .ref x0), (1, .int (nI k)), (2, .int v)] [] [(x0, .inr (4, [.ref s0, .ref k0, .ref p0, .ref t0])), (s0, .inr (2, [.ref sp, .ref sa, .ref sc])), (sp, .inl (ty.1, 11, .inl (zN p2)))] := by
                    intro n9
                    induction n9 with
                    | zero => intro  hn; exact absurd hn (Nat.not_lt_zero _)
                    | succ n9 ih45 =>
                      intro  hn45 hbad
                      exact hTh 1 1 45 56 3 4 _ _ (by decide) (by decide) (Or.inr (⟨rfl, k, hk, hok, by rw [← hlo]; exact hbad⟩)) rfl rfl (fun _ h => (List.mem_cons_of_mem _ (List.mem_append_right _ h))) dX5_setPrice_45 dX5_setPrice_48 dX5_setPrice_49 dX5_setPrice_51 dX5_setPrice_54 rfl
                  refine g_lv [1, 2, 3] rfl ?_
                  exact L45 _  (Nat.lt_succ_self _) (by omega)
          exact L34 _ _ (Nat.lt_succ_self _) (by first | exact (if_pos (by omega)).symm | exact (if_neg (by omega)).symm) (by decide)
        · skip
          refine g_iconst C dX5_setPrice_29 (v := (nI 0)) (by decide) ?_
          refine g_goto C dX5_setPrice_30 (tgt := 34) (by decide) ?_
          have L34 : ∀ (n9 : Nat) (lo : Nat), 0 < n9 → (lo = (if k = 10 then 0 else 1)) → (lo ≤ 1) → gG (g_IU A D s) p l e rm_t_X5_setPrice s m args below meth c Q 5 0 0 34 [(0, .ref x0), (1, .int (nI k)), (2, .int v)] [.int (nI lo)] [(x0, .inr (4, [.ref s0, .ref k0, .ref p0, .ref t0])), (s0, .inr (2, [.ref sp, .ref sa, .ref sc])), (sp, .inl (ty.1, 11, .inl (zN p2)))] := by
            intro n9
            induction n9 with
            | zero => intro lo hn; exact absurd hn (Nat.not_lt_zero _)
            | succ n9 ih34 =>
              intro lo hn34 hlo hlo1
              refine g_istore_n C dX5_setPrice_34 rfl (by decide) (lv' := [(3, .int (nI lo)), (0, .ref x0), (1, .int (nI k)), (2, .int v)]) rfl ?_
              refine g_iload_n C dX5_setPrice_35 3 rfl rfl ?_
              refine g_iload_n C dX5_setPrice_36 0 rfl rfl ?_
              refine g_icmp_lt C dX5_setPrice_37 (tgt := 45) (by decide) (fun h37 => ?_) (fun h37 => ?_)
              · skip
                rw [nI_toInt (by omega)] at h37
                have L45 : ∀ (n9 : Nat) , 0 < n9 → (v.toInt < (lo : Int) ∨ 5 < v.toInt) → gG (g_IU A D s) p l e rm_t_X5_setPrice s m args below meth c Q 5 0 0 45 [(0, .ref x0), (1, .int (nI k)), (2, .int v)] [] [(x0, .inr (4, [.ref s0, .ref k0, .ref p0, .ref t0])), (s0, .inr (2, [.ref sp, .ref sa, .ref sc])), (sp, .inl (ty.1, 11, .inl (zN p2)))] := by
                  intro n9
                  induction n9 with
                  | zero => intro  hn; exact absurd hn (Nat.not_lt_zero _)
                  | succ n9 ih45 =>
                    intro  hn45 hbad
                    exact hTh 1 1 45 56 3 4 _ _ (by decide) (by decide) (Or.inr (⟨rfl, k, hk, hok, by rw [← hlo]; exact hbad⟩)) rfl rfl (fun _ h => (List.mem_cons_of_mem _ (List.mem_append_right _ h))) dX5_setPrice_45 dX5_setPrice_48 dX5_setPrice_49 dX5_setPrice_51 dX5_setPrice_54 rfl
                refine g_lv [1, 2, 3] rfl ?_
                exact L45 _  (Nat.lt_succ_self _) (by omega)
              · skip
                rw [nI_toInt (by omega)] at h37
                refine g_iload_n C dX5_setPrice_40 3 rfl rfl ?_
                refine g_iconst C dX5_setPrice_41 (v := (nI 5)) (by decide) ?_
                refine g_icmp_le C dX5_setPrice_42 (tgt := 55) (by decide) (fun h42 => ?_) (fun h42 => ?_)
                · skip
                  rw [nI_toInt (by decide)] at h42
                  obtain ⟨u, hu, rfl⟩ := nI_of_int (x := v) (n := 5) (by omega) (by omega)
                  rw [nI_toInt (by omega)] at h37
                  refine g_aload_n C dX5_setPrice_55 1 rfl rfl ?_
                  refine g_get C 0 rfl rfl 0 (by decide) (fun _ h => (List.mem_cons_of_mem _ (List.mem_append_left _ (List.mem_append_left _ (List.mem_append_left _ (List.mem_append_right _ h)))))) 5 rfl rfl rfl dX5_setPrice_56 ?_
                  refine g_get C 1 rfl rfl 0 (by decide) (fun _ h => (List.mem_cons_of_mem _ (List.mem_append_left _ (List.mem_append_left _ (List.mem_append_right _ h))))) 6 rfl rfl rfl dX5_setPrice_59 ?_
                  refine g_iload_n C dX5_setPrice_62 2 rfl rfl ?_
                  refine g_iald C (v := (nI (p2 k))) 2 rfl (by omega) (by omega) rfl dX5_setPrice_63 ?_
                  refine g_istore C dX5_setPrice_64 (by decide) (lv' := [(4, .int (nI (p2 k))), (3, .int (nI lo)), (0, .ref x0), (1, .int (nI k)), (2, .int (nI u))]) rfl ?_
                  refine g_aload_n C dX5_setPrice_66 2 rfl rfl ?_
                  refine g_get C 0 rfl rfl 0 (by decide) (fun _ h => (List.mem_cons_of_mem _ (List.mem_append_left _ (List.mem_append_left _ (List.mem_append_left _ (List.mem_append_right _ h)))))) 5 rfl rfl rfl dX5_setPrice_67 ?_
                  refine g_get C 1 rfl rfl 0 (by decide) (fun _ h => (List.mem_cons_of_mem _ (List.mem_append_left _ (List.mem_append_left _ (List.mem_append_right _ h))))) 6 rfl rfl rfl dX5_setPrice_70 ?_
                  refine g_iload_n C dX5_setPrice_73 3 rfl rfl ?_
                  refine g_iload_n C dX5_setPrice_74 4 rfl rfl ?_
                  refine g_iast C 2 rfl (by omega) (by omega) (f' := zN (va_up p2 k u)) (zN_upd _ _ _) (ws' := [(x0, .inr (4, [.ref s0, .ref k0, .ref p0, .ref t0])), (s0, .inr (2, [.ref sp, .ref sa, .ref sc])), (sp, .inl (ty.1, 11, .inl (zN (va_up p2 k u))))]) rfl dX5_setPrice_75 ?_
                  refine g_iload C dX5_setPrice_76 0 rfl ?_
                  refine hR _ _ _ _ _ _ dX5_setPrice_78 ?_ (by omega) (by omega)
                  exact ⟨k, u, hk, hok, rfl, by omega, hu, rfl, rfl⟩
                · skip
                  rw [nI_toInt (by decide)] at h42
                  have L45 : ∀ (n9 : Nat) , 0 < n9 → (v.toInt < (lo : Int) ∨ 5 < v.toInt) → gG (g_IU A D s) p l e rm_t_X5_setPrice s m args below meth c Q 5 0 0 45 [(0, .ref x0), (1, .int (nI k)), (2, .int v)] [] [(x0, .inr (4, [.ref s0, .ref k0, .ref p0, .ref t0])), (s0, .inr (2, [.ref sp, .ref sa, .ref sc])), (sp, .inl (ty.1, 11, .inl (zN p2)))] := by
                    intro n9
                    induction n9 with
                    | zero => intro  hn; exact absurd hn (Nat.not_lt_zero _)
                    | succ n9 ih45 =>
                      intro  hn45 hbad
                      exact hTh 1 1 45 56 3 4 _ _ (by decide) (by decide) (Or.inr (⟨rfl, k, hk, hok, by rw [← hlo]; exact hbad⟩)) rfl rfl (fun _ h => (List.mem_cons_of_mem _ (List.mem_append_right _ h))) dX5_setPrice_45 dX5_setPrice_48 dX5_setPrice_49 dX5_setPrice_51 dX5_setPrice_54 rfl
                  refine g_lv [1, 2, 3] rfl ?_
                  exact L45 _  (Nat.lt_succ_self _) (by omega)
          exact L34 _ _ (Nat.lt_succ_self _) (by first | exact (if_pos (by omega)).symm | exact (if_neg (by omega)).symm) (by decide)
    exact L23 _ k (Nat.lt_succ_self _) (by omega) hok
  · skip
    have hno := in_no (by decide) h4
    refine g_iload_n C dX5_setPrice_7 1 rfl rfl ?_
    refine g_bipush C dX5_setPrice_8 (v := (nI 10)) (by decide) ?_
    refine g_icmp_eq C dX5_setPrice_10 (tgt := 23) (by decide) (fun h10 => ?_) (fun h10 => ?_)
    · skip
      have hok := t_eq.mpr h10
      rw [hok]
      have L23 : ∀ (n9 : Nat) (k : Nat), 0 < n9 → (k ≤ 10) → (o = nI k) → gG (g_IU A D s) p l e rm_t_X5_setPrice s m args below meth c Q 5 0 0 23 [(0, .ref x0), (1, .int (nI k)), (2, .int v)] [] [(x0, .inr (4, [.ref s0, .ref k0, .ref p0, .ref t0])), (s0, .inr (2, [.ref sp, .ref sa, .ref sc])), (sp, .inl (ty.1, 11, .inl (zN p2)))] := by
        intro n9
        induction n9 with
        | zero => intro k hn; exact absurd hn (Nat.not_lt_zero _)
        | succ n9 ih23 =>
          intro k hn23 hk hok
          refine g_iload_n C dX5_setPrice_23 1 rfl rfl ?_
          refine g_bipush C dX5_setPrice_24 (v := (nI 10)) (by decide) ?_
          refine g_icmp_neN C dX5_setPrice_26 (tgt := 33) (by decide) (by omega) (by omega) (fun h26 => ?_) (fun h26 => ?_)
          · skip
            refine g_iconst C dX5_setPrice_33 (v := (nI 1)) (by decide) ?_
            have L34 : ∀ (n9 : Nat) (lo : Nat), 0 < n9 → (lo = (if k = 10 then 0 else 1)) → (lo ≤ 1) → gG (g_IU A D s) p l e rm_t_X5_setPrice s m args below meth c Q 5 0 0 34 [(0, .ref x0), (1, .int (nI k)), (2, .int v)] [.int (nI lo)] [(x0, .inr (4, [.ref s0, .ref k0, .ref p0, .ref t0])), (s0, .inr (2, [.ref sp, .ref sa, .ref sc])), (sp, .inl (ty.1, 11, .inl (zN p2)))] := by
              intro n9
              induction n9 with
              | zero => intro lo hn; exact absurd hn (Nat.not_lt_zero _)
              | succ n9 ih34 =>
                intro lo hn34 hlo hlo1
                refine g_istore_n C dX5_setPrice_34 rfl (by decide) (lv' := [(3, .int (nI lo)), (0, .ref x0), (1, .int (nI k)), (2, .int v)]) rfl ?_
                refine g_iload_n C dX5_setPrice_35 3 rfl rfl ?_
                refine g_iload_n C dX5_setPrice_36 0 rfl rfl ?_
                refine g_icmp_lt C dX5_setPrice_37 (tgt := 45) (by decide) (fun h37 => ?_) (fun h37 => ?_)
                · skip
                  rw [nI_toInt (by omega)] at h37
                  have L45 : ∀ (n9 : Nat) , 0 < n9 → (v.toInt < (lo : Int) ∨ 5 < v.toInt) → gG (g_IU A D s) p l e rm_t_X5_setPrice s m args below meth c Q 5 0 0 45 [(0, .ref x0), (1, .int (nI k)), (2, .int v)] [] [(x0, .inr (4, [.ref s0, .ref k0, .ref p0, .ref t0])), (s0, .inr (2, [.ref sp, .ref sa, .ref sc])), (sp, .inl (ty.1, 11, .inl (zN p2)))] := by
                    intro n9
                    induction n9 with
                    | zero => intro  hn; exact absurd hn (Nat.not_lt_zero _)
                    | succ n9 ih45 =>
                      intro  hn45 hbad
                      exact hTh 1 1 45 56 3 4 _ _ (by decide) (by decide) (Or.inr (⟨rfl, k, hk, hok, by rw [← hlo]; exact hbad⟩)) rfl rfl (fun _ h => (List.mem_cons_of_mem _ (List.mem_append_right _ h))) dX5_setPrice_45 dX5_setPrice_48 dX5_setPrice_49 dX5_setPrice_51 dX5_setPrice_54 rfl
                  refine g_lv [1, 2, 3] rfl ?_
                  exact L45 _  (Nat.lt_succ_self _) (by omega)
                · skip
                  rw [nI_toInt (by omega)] at h37
                  refine g_iload_n C dX5_setPrice_40 3 rfl rfl ?_
                  refine g_iconst C dX5_setPrice_41 (v := (nI 5)) (by decide) ?_
                  refine g_icmp_le C dX5_setPrice_42 (tgt := 55) (by decide) (fun h42 => ?_) (fun h42 => ?_)
                  · skip
                    rw [nI_toInt (by decide)] at h42
                    obtain ⟨u, hu, rfl⟩ := nI_of_int (x := v) (n := 5) (by omega) (by omega)
                    rw [nI_toInt (by omega)] at h37
                    refine g_aload_n C dX5_setPrice_55 1 rfl rfl ?_
                    refine g_get C 0 rfl rfl 0 (by decide) (fun _ h => (List.mem_cons_of_mem _ (List.mem_append_left _ (List.mem_append_left _ (List.mem_append_left _ (List.mem_append_right _ h)))))) 5 rfl rfl rfl dX5_setPrice_56 ?_
                    refine g_get C 1 rfl rfl 0 (by decide) (fun _ h => (List.mem_cons_of_mem _ (List.mem_append_left _ (List.mem_append_left _ (List.mem_append_right _ h))))) 6 rfl rfl rfl dX5_setPrice_59 ?_
                    refine g_iload_n C dX5_setPrice_62 2 rfl rfl ?_
                    refine g_iald C (v := (nI (p2 k))) 2 rfl (by omega) (by omega) rfl dX5_setPrice_63 ?_
                    refine g_istore C dX5_setPrice_64 (by decide) (lv' := [(4, .int (nI (p2 k))), (3, .int (nI lo)), (0, .ref x0), (1, .int (nI k)), (2, .int (nI u))]) rfl ?_
                    refine g_aload_n C dX5_setPrice_66 2 rfl rfl ?_
                    refine g_get C 0 rfl rfl 0 (by decide) (fun _ h => (List.mem_cons_of_mem _ (List.mem_append_left _ (List.mem_append_left _ (List.mem_append_left _ (List.mem_append_right _ h)))))) 5 rfl rfl rfl dX5_setPrice_67 ?_
                    refine g_get C 1 rfl rfl 0 (by decide) (fun _ h => (List.mem_cons_of_mem _ (List.mem_append_left _ (List.mem_append_left _ (List.mem_append_right _ h))))) 6 rfl rfl rfl dX5_setPrice_70 ?_
                    refine g_iload_n C dX5_setPrice_73 3 rfl rfl ?_
                    refine g_iload_n C dX5_setPrice_74 4 rfl rfl ?_
                    refine g_iast C 2 rfl (by omega) (by omega) (f' := zN (va_up p2 k u)) (zN_upd _ _ _) (ws' := [(x0, .inr (4, [.ref s0, .ref k0, .ref p0, .ref t0])), (s0, .inr (2, [.ref sp, .ref sa, .ref sc])), (sp, .inl (ty.1, 11, .inl (zN (va_up p2 k u))))]) rfl dX5_setPrice_75 ?_
                    refine g_iload C dX5_setPrice_76 0 rfl ?_
                    refine hR _ _ _ _ _ _ dX5_setPrice_78 ?_ (by omega) (by omega)
                    exact ⟨k, u, hk, hok, rfl, by omega, hu, rfl, rfl⟩
                  · skip
                    rw [nI_toInt (by decide)] at h42
                    have L45 : ∀ (n9 : Nat) , 0 < n9 → (v.toInt < (lo : Int) ∨ 5 < v.toInt) → gG (g_IU A D s) p l e rm_t_X5_setPrice s m args below meth c Q 5 0 0 45 [(0, .ref x0), (1, .int (nI k)), (2, .int v)] [] [(x0, .inr (4, [.ref s0, .ref k0, .ref p0, .ref t0])), (s0, .inr (2, [.ref sp, .ref sa, .ref sc])), (sp, .inl (ty.1, 11, .inl (zN p2)))] := by
                      intro n9
                      induction n9 with
                      | zero => intro  hn; exact absurd hn (Nat.not_lt_zero _)
                      | succ n9 ih45 =>
                        intro  hn45 hbad
                        exact hTh 1 1 45 56 3 4 _ _ (by decide) (by decide) (Or.inr (⟨rfl, k, hk, hok, by rw [← hlo]; exact hbad⟩)) rfl rfl (fun _ h => (List.mem_cons_of_mem _ (List.mem_append_right _ h))) dX5_setPrice_45 dX5_setPrice_48 dX5_setPrice_49 dX5_setPrice_51 dX5_setPrice_54 rfl
                    refine g_lv [1, 2, 3] rfl ?_
                    exact L45 _  (Nat.lt_succ_self _) (by omega)
            exact L34 _ _ (Nat.lt_succ_self _) (by first | exact (if_pos (by omega)).symm | exact (if_neg (by omega)).symm) (by decide)
          · skip
            refine g_iconst C dX5_setPrice_29 (v := (nI 0)) (by decide) ?_
            refine g_goto C dX5_setPrice_30 (tgt := 34) (by decide) ?_
            have L34 : ∀ (n9 : Nat) (lo : Nat), 0 < n9 → (lo = (if k = 10 then 0 else 1)) → (lo ≤ 1) → gG (g_IU A D s) p l e rm_t_X5_setPrice s m args below meth c Q 5 0 0 34 [(0, .ref x0), (1, .int (nI k)), (2, .int v)] [.int (nI lo)] [(x0, .inr (4, [.ref s0, .ref k0, .ref p0, .ref t0])), (s0, .inr (2, [.ref sp, .ref sa, .ref sc])), (sp, .inl (ty.1, 11, .inl (zN p2)))] := by
              intro n9
              induction n9 with
              | zero => intro lo hn; exact absurd hn (Nat.not_lt_zero _)
              | succ n9 ih34 =>
                intro lo hn34 hlo hlo1
                refine g_istore_n C dX5_setPrice_34 rfl (by decide) (lv' := [(3, .int (nI lo)), (0, .ref x0), (1, .int (nI k)), (2, .int v)]) rfl ?_
                refine g_iload_n C dX5_setPrice_35 3 rfl rfl ?_
                refine g_iload_n C dX5_setPrice_36 0 rfl rfl ?_
                refine g_icmp_lt C dX5_setPrice_37 (tgt := 45) (by decide) (fun h37 => ?_) (fun h37 => ?_)
                · skip
                  rw [nI_toInt (by omega)] at h37
                  have L45 : ∀ (n9 : Nat) , 0 < n9 → (v.toInt < (lo : Int) ∨ 5 < v.toInt) → gG (g_IU A D s) p l e rm_t_X5_setPrice s m args below meth c Q 5 0 0 45 [(0, .ref x0), (1, .int (nI k)), (2, .int v)] [] [(x0, .inr (4, [.ref s0, .ref k0, .ref p0, .ref t0])), (s0, .inr (2, [.ref sp, .ref sa, .ref sc])), (sp, .inl (ty.1, 11, .inl (zN p2)))] := by
                    intro n9
                    induction n9 with
                    | zero => intro  hn; exact absurd hn (Nat.not_lt_zero _)
                    | succ n9 ih45 =>
                      intro  hn45 hbad
                      exact hTh 1 1 45 56 3 4 _ _ (by decide) (by decide) (Or.inr (⟨rfl, k, hk, hok, by rw [← hlo]; exact hbad⟩)) rfl rfl (fun _ h => (List.mem_cons_of_mem _ (List.mem_append_right _ h))) dX5_setPrice_45 dX5_setPrice_48 dX5_setPrice_49 dX5_setPrice_51 dX5_setPrice_54 rfl
                  refine g_lv [1, 2, 3] rfl ?_
                  exact L45 _  (Nat.lt_succ_self _) (by omega)
                · skip
                  rw [nI_toInt (by omega)] at h37
                  refine g_iload_n C dX5_setPrice_40 3 rfl rfl ?_
                  refine g_iconst C dX5_setPrice_41 (v := (nI 5)) (by decide) ?_
                  refine g_icmp_le C dX5_setPrice_42 (tgt := 55) (by decide) (fun h42 => ?_) (fun h42 => ?_)
                  · skip
                    rw [nI_toInt (by decide)] at h42
                    obtain ⟨u, hu, rfl⟩ := nI_of_int (x := v) (n := 5) (by omega) (by omega)
                    rw [nI_toInt (by omega)] at h37
                    refine g_aload_n C dX5_setPrice_55 1 rfl rfl ?_
                    refine g_get C 0 rfl rfl 0 (by decide) (fun _ h => (List.mem_cons_of_mem _ (List.mem_append_left _ (List.mem_append_left _ (List.mem_append_left _ (List.mem_append_right _ h)))))) 5 rfl rfl rfl dX5_setPrice_56 ?_
                    refine g_get C 1 rfl rfl 0 (by decide) (fun _ h => (List.mem_cons_of_mem _ (List.mem_append_left _ (List.mem_append_left _ (List.mem_append_right _ h))))) 6 rfl rfl rfl dX5_setPrice_59 ?_
                    refine g_iload_n C dX5_setPrice_62 2 rfl rfl ?_
                    refine g_iald C (v := (nI (p2 k))) 2 rfl (by omega) (by omega) rfl dX5_setPrice_63 ?_
                    refine g_istore C dX5_setPrice_64 (by decide) (lv' := [(4, .int (nI (p2 k))), (3, .int (nI lo)), (0, .ref x0), (1, .int (nI k)), (2, .int (nI u))]) rfl ?_
                    refine g_aload_n C dX5_setPrice_66 2 rfl rfl ?_
                    refine g_get C 0 rfl rfl 0 (by decide) (fun _ h => (List.mem_cons_of_mem _ (List.mem_append_left _ (List.mem_append_left _ (List.mem_append_left _ (List.mem_append_right _ h)))))) 5 rfl rfl rfl dX5_setPrice_67 ?_
                    refine g_get C 1 rfl rfl 0 (by decide) (fun _ h => (List.mem_cons_of_mem _ (List.mem_append_left _ (List.mem_append_left _ (List.mem_append_right _ h))))) 6 rfl rfl rfl dX5_setPrice_70 ?_
                    refine g_iload_n C dX5_setPrice_73 3 rfl rfl ?_
                    refine g_iload_n C dX5_setPrice_74 4 rfl rfl ?_
                    refine g_iast C 2 rfl (by omega) (by omega) (f' := zN (va_up p2 k u)) (zN_upd _ _ _) (ws' := [(x0, .inr (4, [.ref s0, .ref k0, .ref p0, .ref t0])), (s0, .inr (2, [.ref sp, .ref sa, .ref sc])), (sp, .inl (ty.1, 11, .inl (zN (va_up p2 k u))))]) rfl dX5_setPrice_75 ?_
                    refine g_iload C dX5_setPrice_76 0 rfl ?_
                    refine hR _ _ _ _ _ _ dX5_setPrice_78 ?_ (by omega) (by omega)
                    exact ⟨k, u, hk, hok, rfl, by omega, hu, rfl, rfl⟩
                  · skip
                    rw [nI_toInt (by decide)] at h42
                    have L45 : ∀ (n9 : Nat) , 0 < n9 → (v.toInt < (lo : Int) ∨ 5 < v.toInt) → gG (g_IU A D s) p l e rm_t_X5_setPrice s m args below meth c Q 5 0 0 45 [(0, .ref x0), (1, .int (nI k)), (2, .int v)] [] [(x0, .inr (4, [.ref s0, .ref k0, .ref p0, .ref t0])), (s0, .inr (2, [.ref sp, .ref sa, .ref sc])), (sp, .inl (ty.1, 11, .inl (zN p2)))] := by
                      intro n9
                      induction n9 with
                      | zero => intro  hn; exact absurd hn (Nat.not_lt_zero _)
                      | succ n9 ih45 =>
                        intro  hn45 hbad
                        exact hTh 1 1 45 56 3 4 _ _ (by decide) (by decide) (Or.inr (⟨rfl, k, hk, hok, by rw [← hlo]; exact hbad⟩)) rfl rfl (fun _ h => (List.mem_cons_of_mem _ (List.mem_append_right _ h))) dX5_setPrice_45 dX5_setPrice_48 dX5_setPrice_49 dX5_setPrice_51 dX5_setPrice_54 rfl
                    refine g_lv [1, 2, 3] rfl ?_
                    exact L45 _  (Nat.lt_succ_self _) (by omega)
            exact L34 _ _ (Nat.lt_succ_self _) (by first | exact (if_pos (by omega)).symm | exact (if_neg (by omega)).symm) (by decide)
      exact L23 _ 10 (Nat.lt_succ_self _) (by omega) hok
    · skip
      rw [nI_toInt (by decide)] at h10
      exact hTh 0 0 13 41 1 2 _ _ (by decide) (by decide) (Or.inl (⟨rfl, by omega⟩)) rfl rfl (fun _ h => (List.mem_cons_of_mem _ (List.mem_append_left _ (List.mem_append_right _ h)))) dX5_setPrice_13 dX5_setPrice_16 dX5_setPrice_17 dX5_setPrice_19 dX5_setPrice_22 rfl



abbrev rm_t_X5_compose : Room := ({ frames := 2, cells := 0, slots := 0, locals := 48 } : Room)
set_option maxHeartbeats 4000000 in
set_option maxRecDepth 100000 in
theorem t_X5_compose (l : Launch) (D : va_G) (ty : g_T3) (x0 : Nat) (f g : Int64) : g_P l yX5_compose wsX5_compose rm_t_X5_compose D ty g_X0 [.ref x0, .long f, .long g] [] (g_pl (fun r => r = afN f g 16)) := by
  refine g_ofPl (cc := cX5_compose) (nL := 5) (own := RX5) (by decide) rfl rfl g_X0_ok (Nat.le_of_ble_eq_true rfl) ?_
  intro p e s m args below meth c Q C hX hR
  refine g_lv (lv' := [(0, .ref x0), (1, .long f), (3, .long g)]) [0, 1, 2] rfl ?_
  refine g_lload_n C dX5_compose_0 1 rfl rfl ?_
  refine g_lload_n C dX5_compose_1 2 rfl rfl ?_
  refine g_callPS C ⟨g_X0_ok, trivial⟩ (t_X0_after l D ty f g) rfl gX5_compose_X0_after 2 (by decide +kernel) rfl ⟨rfl, rfl⟩ ⟨Nat.le_of_ble_eq_true rfl, Nat.le_of_ble_eq_true rfl⟩ (rest := []) [] rfl (Nat.le_of_ble_eq_true rfl) dX5_compose_2 ⟨Nat.le_of_ble_eq_true rfl, Nat.le_of_ble_eq_true rfl⟩ rfl (g_kl (fun r hr => ?_))
  subst hr
  exact hR _ _ _ _ dX5_compose_5 (rfl)

abbrev rm_t_X5_inverse : Room := ({ frames := 6, cells := 1, slots := 6, locals := 82 } : Room)
set_option maxHeartbeats 4000000 in
set_option maxRecDepth 100000 in
theorem t_X5_inverse (l : Launch) (hfl : l.stackTraces = false) (D : va_G) (ty : g_T3) (x0 : Nat) (f : Int64) : g_T l yX5_inverse wsX5_inverse rm_t_X5_inverse D ty g_XT [.ref x0, .long f] [] 1 6 (g_ul (fun r w => 16 ≤ (ibc (nI (imF f 65535))).toInt ∧ r = ivN f 16 ∧ w = [])) (fun E => (E = x_IS ∧ (ibc (nI (imF f 65535))).toInt < 16)) := by
  refine g_ofTl hfl (cc := cX5_inverse) (nL := 3) (by decide) rfl rfl (Nat.le_of_ble_eq_true rfl) ⟨Nat.le_of_ble_eq_true rfl, Nat.le_of_ble_eq_true rfl, Nat.le_of_ble_eq_true rfl, Nat.le_of_ble_eq_true rfl, Nat.le_of_ble_eq_true rfl, Nat.le_of_ble_eq_true rfl⟩ ?_
  intro p e s m args below meth c Q A C hA hX hin hTh hR
  refine g_lv (lv' := [(0, .ref x0), (1, .long f)]) [0, 1] rfl ?_
  refine g_lload_n C dX5_inverse_0 1 rfl rfl ?_
  refine g_callPS C ⟨g_X0_ok, trivial⟩ (t_X0_countValues l D ty f) rfl gX5_inverse_X0_countValues 1 (by decide +kernel) rfl ⟨rfl, rfl⟩ ⟨Nat.le_of_ble_eq_true rfl, Nat.le_of_ble_eq_true rfl⟩ (rest := []) [] rfl (Nat.le_of_ble_eq_true rfl) dX5_inverse_1 ⟨Nat.le_of_ble_eq_true rfl, Nat.le_of_ble_eq_true rfl⟩ rfl (g_ki (fun r hr => ?_))
  subst hr
  refine g_bipush C dX5_inverse_4 (v := (nI 16)) (by decide) ?_
  refine g_icmp_ge C dX5_inverse_6 (tgt := 19) (by decide) (fun h6 => ?_) (fun h6 => ?_)
  · skip
    rw [nI_toInt (by decide)] at h6
    refine g_lload_n C dX5_inverse_19 1 rfl rfl ?_
    refine g_callPS C ⟨g_X0_ok, trivial⟩ (t_X0_inverseOf l D ty f) rfl gX5_inverse_X0_inverseOf 1 (by decide +kernel) rfl ⟨rfl, rfl⟩ ⟨Nat.le_of_ble_eq_true rfl, Nat.le_of_ble_eq_true rfl⟩ (rest := []) [] rfl (Nat.le_of_ble_eq_true rfl) dX5_inverse_20 ⟨Nat.le_of_ble_eq_true rfl, Nat.le_of_ble_eq_true rfl⟩ rfl (g_kl (fun r hr => ?_))
    subst hr
    refine hR _ _ _ _ _ _ dX5_inverse_23 ?_ (by omega) (by omega)
    exact ⟨by omega, rfl, rfl⟩
  · skip
    rw [nI_toInt (by decide)] at h6
    exact hTh 2 3 9 93 1 2 _ _ (by decide) (by decide) (⟨rfl, by omega⟩) rfl rfl (fun _ h => (List.mem_cons_of_mem _ (List.mem_append_right _ h))) dX5_inverse_9 dX5_inverse_12 dX5_inverse_13 dX5_inverse_15 dX5_inverse_18 rfl

abbrev rm_t_X5_measure : Room := ({ frames := 6, cells := 1, slots := 6, locals := 93 } : Room)
set_option maxHeartbeats 4000000 in
set_option maxRecDepth 100000 in
theorem t_X5_measure (l : Launch) (hfl : l.stackTraces = false) (D : va_G) (ty : g_T3) (x0 : Nat) (f : Int64) (o : Int32) : g_T l yX5_measure wsX5_measure rm_t_X5_measure D ty g_XT [.ref x0, .long f, .int o] [] 1 6 (g_ui (fun r w => ∃ k, k ≤ 4 ∧ o = nI k ∧ msR f k r ∧ w = [])) (fun E => (E = x_IO ∧ (o.toInt < 0 ∨ 4 < o.toInt))) := by
  refine g_ofTi hfl (cc := cX5_measure) (nL := 4) (by decide) rfl rfl (Nat.le_of_ble_eq_true rfl) ⟨Nat.le_of_ble_eq_true rfl, Nat.le_of_ble_eq_true rfl, Nat.le_of_ble_eq_true rfl, Nat.le_of_ble_eq_true rfl, Nat.le_of_ble_eq_true rfl, Nat.le_of_ble_eq_true rfl⟩ ?_
  intro p e s m args below meth c Q A C hA hX hin hTh hR
  refine g_lv (lv' := [(0, .ref x0), (1, .long f), (3, .int o)]) [0, 1, 2] rfl ?_
  refine g_iload_n C dX5_measure_0 2 rfl rfl ?_
  rcases in_4 o with rfl | rfl | rfl | rfl | rfl | hno
  · skip
    refine g_tableIn C dX5_measure_1 (by decide) (by decide) (off := 35) (by decide) (tgt := 36) (by decide) ?_
    refine g_bipush C dX5_measure_36 (v := (nI 16)) (by decide) ?_
    refine g_lload_n C dX5_measure_38 1 rfl rfl ?_
    refine g_ldc2 C (v := (-81985529216486896)) 3 rfl dX5_measure_39 ?_
    refine g_callPS C ⟨g_X0_ok, trivial⟩ (t_X0_countDifferences l D ty f (-81985529216486896)) rfl gX5_measure_X0_countDifferences 2 (by decide +kernel) rfl ⟨rfl, rfl⟩ ⟨Nat.le_of_ble_eq_true rfl, Nat.le_of_ble_eq_true rfl⟩ (rest := [.int (nI 16)]) [] rfl (Nat.le_of_ble_eq_true rfl) dX5_measure_42 ⟨Nat.le_of_ble_eq_true rfl, Nat.le_of_ble_eq_true rfl⟩ rfl (g_ki (fun r hr => ?_))
    subst hr
    refine g_isub C dX5_measure_45 (v := ((nI 16) - (lbc (dfF f (-81985529216486896))))) rfl ?_
    refine hR _ _ _ _ _ _ dX5_measure_46 ?_ (by omega) (by omega)
    exact ⟨0, by decide, rfl, rfl, rfl⟩
  · skip
    refine g_tableIn C dX5_measure_1 (by decide) (by decide) (off := 46) (by decide) (tgt := 47) (by decide) ?_
    refine g_lload_n C dX5_measure_47 1 rfl rfl ?_
    refine g_callPS C ⟨g_X0_ok, trivial⟩ (t_X0_countValues l D ty f) rfl gX5_measure_X0_countValues 1 (by decide +kernel) rfl ⟨rfl, rfl⟩ ⟨Nat.le_of_ble_eq_true rfl, Nat.le_of_ble_eq_true rfl⟩ (rest := []) [] rfl (Nat.le_of_ble_eq_true rfl) dX5_measure_48 ⟨Nat.le_of_ble_eq_true rfl, Nat.le_of_ble_eq_true rfl⟩ rfl (g_ki (fun r hr => ?_))
    subst hr
    refine hR _ _ _ _ _ _ dX5_measure_51 ?_ (by omega) (by omega)
    exact ⟨1, by decide, rfl, rfl, rfl⟩
  · skip
    refine g_tableIn C dX5_measure_1 (by decide) (by decide) (off := 51) (by decide) (tgt := 52) (by decide) ?_
    refine g_lload_n C dX5_measure_52 1 rfl rfl ?_
    refine g_ldc2 C (v := (-81985529216486896)) 3 rfl dX5_measure_53 ?_
    refine g_lxor C dX5_measure_56 (v := (f ^^^ (-81985529216486896))) rfl ?_
    refine g_callPS C ⟨g_X0_ok, trivial⟩ (t_J13_bitCount_95d88 l D ty (f ^^^ (-81985529216486896))) rfl gX5_measure_J13_bitCount_95d88 1 (by decide +kernel) rfl ⟨rfl, rfl⟩ ⟨Nat.le_of_ble_eq_true rfl, Nat.le_of_ble_eq_true rfl⟩ (rest := []) [] rfl (Nat.le_of_ble_eq_true rfl) dX5_measure_57 ⟨Nat.le_of_ble_eq_true rfl, Nat.le_of_ble_eq_true rfl⟩ rfl (g_ki (fun r hr => ?_))
    subst hr
    refine hR _ _ _ _ _ _ dX5_measure_60 ?_ (by omega) (by omega)
    exact ⟨2, by decide, rfl, rfl, rfl⟩
  · skip
    refine g_tableIn C dX5_measure_1 (by decide) (by decide) (off := 60) (by decide) (tgt := 61) (by decide) ?_
    refine g_lload_n C dX5_measure_61 1 rfl rfl ?_
    refine g_callPS C ⟨g_X0_ok, trivial⟩ (t_X0_returningInputs l D ty f) rfl gX5_measure_X0_returningInputs 1 (by decide +kernel) rfl ⟨rfl, rfl⟩ ⟨Nat.le_of_ble_eq_true rfl, Nat.le_of_ble_eq_true rfl⟩ (rest := []) [] rfl (Nat.le_of_ble_eq_true rfl) dX5_measure_62 ⟨Nat.le_of_ble_eq_true rfl, Nat.le_of_ble_eq_true rfl⟩ rfl (g_ki (fun r hr => ?_))
    subst hr
    refine g_callPS C ⟨g_X0_ok, trivial⟩ (t_J6_bitCount_0f7a4 l D ty (nI (itF f 16))) rfl gX5_measure_J6_bitCount_0f7a4 1 (by decide +kernel) rfl ⟨rfl, rfl⟩ ⟨Nat.le_of_ble_eq_true rfl, Nat.le_of_ble_eq_true rfl⟩ (rest := []) [] rfl (Nat.le_of_ble_eq_true rfl) dX5_measure_65 ⟨Nat.le_of_ble_eq_true rfl, Nat.le_of_ble_eq_true rfl⟩ rfl (g_ki (fun r hr => ?_))
    subst hr
    refine hR _ _ _ _ _ _ dX5_measure_68 ?_ (by omega) (by omega)
    exact ⟨3, by decide, rfl, rfl, rfl⟩
  · skip
    refine g_tableIn C dX5_measure_1 (by decide) (by decide) (off := 68) (by decide) (tgt := 69) (by decide) ?_
    refine g_lload_n C dX5_measure_69 1 rfl rfl ?_
    refine g_callPS C ⟨g_X0_ok, trivial⟩ (t_X0_stepsToReturning l D ty f) rfl gX5_measure_X0_stepsToReturning 1 (by decide +kernel) rfl ⟨rfl, rfl⟩ ⟨Nat.le_of_ble_eq_true rfl, Nat.le_of_ble_eq_true rfl⟩ (rest := []) [] rfl (Nat.le_of_ble_eq_true rfl) dX5_measure_70 ⟨Nat.le_of_ble_eq_true rfl, Nat.le_of_ble_eq_true rfl⟩ rfl (g_ki (fun r hr => ?_))
    obtain ⟨n9s, rfl, hs9⟩ := hr
    refine hR _ _ _ _ _ _ dX5_measure_73 ?_ (by omega) (by omega)
    exact ⟨4, by decide, rfl, ⟨n9s, rfl, hs9⟩, rfl⟩
  · skip
    refine g_tableOut C dX5_measure_1 hno (tgt := 74) (by decide) ?_
    exact hTh 0 4 74 41 1 2 _ _ (by decide) (by decide) (⟨rfl, hno⟩) rfl rfl (fun _ h => (List.mem_cons_of_mem _ (List.mem_append_right _ h))) dX5_measure_74 dX5_measure_77 dX5_measure_78 dX5_measure_80 dX5_measure_83 rfl



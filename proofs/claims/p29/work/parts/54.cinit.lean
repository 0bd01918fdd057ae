theorem zP_lt {op : Nat} : upd (zN (fun j => if j < op then 1 else 0)) op (nI 1) = zN (fun j => if j < op + 1 then 1 else 0) := by
  funext j
  unfold upd zN
  by_cases q : j = op
  · rw [if_pos q]
    show nI 1 = nI (if j < op + 1 then 1 else 0)
    rw [if_pos (show j < op + 1 by omega)]
  · rw [if_neg q]
    show nI (if j < op then 1 else 0) = nI (if j < op + 1 then 1 else 0)
    by_cases z : j < op
    · rw [if_pos z, if_pos (show j < op + 1 by omega)]
    · rw [if_neg z, if_neg (show ¬ j < op + 1 by omega)]
theorem zA_lt {op : Nat} {b : Bool} (hb : decide (op < 9) = b) : upd (zB (fun j => decide (j < op ∧ j < 9))) op (vp_nar .boolean (nI b.toNat)) = zB (fun j => decide (j < op + 1 ∧ j < 9)) := by
  rw [zB_upd]
  funext j
  unfold zB va_up
  congr 2
  by_cases q : j = op
  · rw [if_pos q, q, ← hb]; exact decide_eq_decide.mpr ⟨fun z => ⟨by omega, z⟩, fun z => z.2⟩
  · rw [if_neg q]
    show decide (j < op ∧ j < 9) = decide (j < op + 1 ∧ j < 9)
    exact decide_eq_decide.mpr ⟨fun z => ⟨by omega, z.2⟩, fun z => ⟨by omega, z.2⟩⟩
abbrev rm_t_X1_init : Room := ({ frames := 1, cells := 1, slots := 30, locals := 20 } : Room)
set_option maxHeartbeats 4000000 in
set_option maxRecDepth 100000 in
theorem t_X1_init (l : Launch) (D : va_G) (ty : g_T3) (p0 : Nat) : g_U l yX1_init wsX1_init rm_t_X1_init D ty g_X0 [.ref p0] [(p0, .inr (0, [.int (nI 0), .null]))] 1 30 (g_uv (fun w => ∃ py : Nat, w = [(p0, .inr (0, [.int (nI 0), .ref py])), (py, .inl (ty.1, 30, .inl (zN (fun _ => 0))))])) := by
  refine g_ofUv (cc := cX1_init) (nL := 1) (own := RX1) (by decide) rfl rfl g_X0_ok (Nat.le_of_ble_eq_true rfl) ?_
  intro p e s m args below meth c Q A C hA hX hin hR
  refine g_lv (lv' := [(0, .ref p0)]) [0] rfl ?_
  refine g_aload_n C dX1_init_0 0 rfl rfl ?_
  refine g_obj C 1 rfl 2 rfl 3 rfl dX1_init_1 (Nat.le_of_ble_eq_true rfl) (Nat.le_of_ble_eq_true rfl) (Nat.le_of_ble_eq_true rfl) ?_
  refine g_aload_n C dX1_init_4 0 rfl rfl ?_
  refine g_bipush C dX1_init_5 (v := (nI 30)) (by decide) ?_
  refine g_newaI C hA (n := 30) (f := (zN (fun _ => 0))) 4 rfl (fun _ => nI_0) (Nat.le_of_ble_eq_true rfl) (Nat.le_of_ble_eq_true rfl) (Nat.le_of_ble_eq_true rfl) dX1_init_7 (fun py => ?_)
  refine g_putF C hin 0 rfl rfl 1 (by decide) (fun _ h => (List.mem_cons_of_mem _ (List.mem_append_right _ h))) 5 rfl rfl rfl tyX1 tyX1_ok nmX1 rfl rfl rfl rfl (Nat.le_of_ble_eq_true rfl) (ws' := [(p0, .inr (0, [.int (nI 0), .ref py])), (py, .inl (ty.1, 30, .inl (zN (fun _ => 0))))]) rfl dX1_init_9 ?_
  refine hR _ _ _ _ _ dX1_init_12 ?_ (by omega) (by omega)
  exact ⟨_, rfl⟩

abbrev rm_t_X4_init : Room := ({ frames := 1, cells := 1, slots := 300, locals := 20 } : Room)
set_option maxHeartbeats 4000000 in
set_option maxRecDepth 100000 in
theorem t_X4_init (l : Launch) (D : va_G) (ty : g_T3) (t0 : Nat) : g_U l yX4_init wsX4_init rm_t_X4_init D ty g_X0 [.ref t0] [(t0, .inr (3, [.int (nI 0), .long 0, .null, .int (nI 0), .int (nI 0)]))] 1 300 (g_uv (fun w => ∃ tz : Nat, w = [(t0, .inr (3, [.int (nI 0), .long 0, .ref tz, .int (nI 0), .int (nI 0)])), (tz, .inl (ty.1, 300, .inl (zN (fun _ => 0))))])) := by
  refine g_ofUv (cc := cX4_init) (nL := 1) (own := RX4) (by decide) rfl rfl g_X0_ok (Nat.le_of_ble_eq_true rfl) ?_
  intro p e s m args below meth c Q A C hA hX hin hR
  refine g_lv (lv' := [(0, .ref t0)]) [0] rfl ?_
  refine g_aload_n C dX4_init_0 0 rfl rfl ?_
  refine g_obj C 1 rfl 2 rfl 3 rfl dX4_init_1 (Nat.le_of_ble_eq_true rfl) (Nat.le_of_ble_eq_true rfl) (Nat.le_of_ble_eq_true rfl) ?_
  refine g_aload_n C dX4_init_4 0 rfl rfl ?_
  refine g_sipush C dX4_init_5 (v := (nI 300)) (by decide) ?_
  refine g_newaI C hA (n := 300) (f := (zN (fun _ => 0))) 4 rfl (fun _ => nI_0) (Nat.le_of_ble_eq_true rfl) (Nat.le_of_ble_eq_true rfl) (Nat.le_of_ble_eq_true rfl) dX4_init_8 (fun tz => ?_)
  refine g_putF C hin 0 rfl rfl 2 (by decide) (fun _ h => (List.mem_cons_of_mem _ (List.mem_append_right _ h))) 5 rfl rfl rfl tyX4 tyX4_ok nmX4 rfl rfl rfl rfl (Nat.le_of_ble_eq_true rfl) (ws' := [(t0, .inr (3, [.int (nI 0), .long 0, .ref tz, .int (nI 0), .int (nI 0)])), (tz, .inl (ty.1, 300, .inl (zN (fun _ => 0))))]) rfl dX4_init_10 ?_
  refine hR _ _ _ _ _ dX4_init_13 ?_ (by omega) (by omega)
  exact ⟨_, rfl⟩

abbrev rm_t_X2_init : Room := ({ frames := 1, cells := 7, slots := 12117, locals := 23 } : Room)
set_option maxHeartbeats 4000000 in
set_option maxRecDepth 100000 in
theorem t_X2_init (l : Launch) (D : va_G) (ty : g_T3) (k0 : Nat) : g_U l yX2_init wsX2_init rm_t_X2_init D ty g_X0 [.ref k0] [(k0, .inr (1, [.int (nI 0), .null, .null, .null, .null, .null, .null, .null]))] 7 12117 (g_uv (fun w => ∃ (kf ko ka kb kt kl kp : Nat) (sF : Nat → Int32), (∀ k, k < 4096 → sF k = -1) ∧ w = [(k0, .inr (1, [.int (nI 0), .ref kf, .ref ko, .ref ka, .ref kb, .ref kt, .ref kl, .ref kp])), (kf, .inl (ty.2.1, 2000, .inr (.inl (fun _ => 0)))), (ko, .inl (ty.1, 2000, .inl (fun _ => 0))), (ka, .inl (ty.1, 2000, .inl (fun _ => 0))), (kb, .inl (ty.1, 2000, .inl (fun _ => 0))), (kt, .inl (ty.1, 8, .inl (fun _ => 0))), (kl, .inl (ty.1, 4096, .inl sF)), (kp, .inl (ty.1, 13, .inl (fun _ => 0)))])) := by
  refine g_ofUv (cc := cX2_init) (nL := 1) (own := RX2) (by decide) rfl rfl g_X0_ok (Nat.le_of_ble_eq_true rfl) ?_
  intro p e s m args below meth c Q A C hA hX hin hR
  refine g_lv (lv' := [(0, .ref k0)]) [0] rfl ?_
  refine g_aload_n C dX2_init_0 0 rfl rfl ?_
  refine g_obj C 1 rfl 2 rfl 3 rfl dX2_init_1 (Nat.le_of_ble_eq_true rfl) (Nat.le_of_ble_eq_true rfl) (Nat.le_of_ble_eq_true rfl) ?_
  refine g_aload_n C dX2_init_4 0 rfl rfl ?_
  refine g_sipush C dX2_init_5 (v := (nI 2000)) (by decide) ?_
  refine g_newaJ C hA (n := 2000) (f := (fun _ => 0)) 4 rfl (fun _ => rfl) (Nat.le_of_ble_eq_true rfl) (Nat.le_of_ble_eq_true rfl) (Nat.le_of_ble_eq_true rfl) dX2_init_8 (fun kf => ?_)
  refine g_putF C hin 0 rfl rfl 1 (by decide) (fun _ h => (List.mem_cons_of_mem _ (List.mem_append_right _ h))) 5 rfl rfl rfl tyX2 tyX2_ok nmX2 rfl rfl rfl rfl (Nat.le_of_ble_eq_true rfl) (ws' := [(k0, .inr (1, [.int (nI 0), .ref kf, .null, .null, .null, .null, .null, .null])), (kf, .inl (ty.2.1, 2000, .inr (.inl (fun _ => 0))))]) rfl dX2_init_10 ?_
  refine g_aload_n C dX2_init_13 0 rfl rfl ?_
  refine g_sipush C dX2_init_14 (v := (nI 2000)) (by decide) ?_
  refine g_newaI C hA (n := 2000) (f := (fun _ => 0)) 6 rfl (fun _ => rfl) (Nat.le_of_ble_eq_true rfl) (Nat.le_of_ble_eq_true rfl) (Nat.le_of_ble_eq_true rfl) dX2_init_17 (fun ko => ?_)
  refine g_putF C hin 0 rfl rfl 2 (by decide) (fun _ h => (List.mem_cons_of_mem _ (List.mem_append_right _ h))) 7 rfl rfl rfl tyX2 tyX2_ok nmX2 rfl rfl rfl rfl (Nat.le_of_ble_eq_true rfl) (ws' := [(k0, .inr (1, [.int (nI 0), .ref kf, .ref ko, .null, .null, .null, .null, .null])), (kf, .inl (ty.2.1, 2000, .inr (.inl (fun _ => 0)))), (ko, .inl (ty.1, 2000, .inl (fun _ => 0)))]) rfl dX2_init_19 ?_
  refine g_aload_n C dX2_init_22 0 rfl rfl ?_
  refine g_sipush C dX2_init_23 (v := (nI 2000)) (by decide) ?_
  refine g_newaI C hA (n := 2000) (f := (fun _ => 0)) 6 rfl (fun _ => rfl) (Nat.le_of_ble_eq_true rfl) (Nat.le_of_ble_eq_true rfl) (Nat.le_of_ble_eq_true rfl) dX2_init_26 (fun ka => ?_)
  refine g_putF C hin 0 rfl rfl 3 (by decide) (fun _ h => (List.mem_cons_of_mem _ (List.mem_append_right _ h))) 8 rfl rfl rfl tyX2 tyX2_ok nmX2 rfl rfl rfl rfl (Nat.le_of_ble_eq_true rfl) (ws' := [(k0, .inr (1, [.int (nI 0), .ref kf, .ref ko, .ref ka, .null, .null, .null, .null])), (kf, .inl (ty.2.1, 2000, .inr (.inl (fun _ => 0)))), (ko, .inl (ty.1, 2000, .inl (fun _ => 0))), (ka, .inl (ty.1, 2000, .inl (fun _ => 0)))]) rfl dX2_init_28 ?_
  refine g_aload_n C dX2_init_31 0 rfl rfl ?_
  refine g_sipush C dX2_init_32 (v := (nI 2000)) (by decide) ?_
  refine g_newaI C hA (n := 2000) (f := (fun _ => 0)) 6 rfl (fun _ => rfl) (Nat.le_of_ble_eq_true rfl) (Nat.le_of_ble_eq_true rfl) (Nat.le_of_ble_eq_true rfl) dX2_init_35 (fun kb => ?_)
  refine g_putF C hin 0 rfl rfl 4 (by decide) (fun _ h => (List.mem_cons_of_mem _ (List.mem_append_right _ h))) 9 rfl rfl rfl tyX2 tyX2_ok nmX2 rfl rfl rfl rfl (Nat.le_of_ble_eq_true rfl) (ws' := [(k0, .inr (1, [.int (nI 0), .ref kf, .ref ko, .ref ka, .ref kb, .null, .null, .null])), (kf, .inl (ty.2.1, 2000, .inr (.inl (fun _ => 0)))), (ko, .inl (ty.1, 2000, .inl (fun _ => 0))), (ka, .inl (ty.1, 2000, .inl (fun _ => 0))), (kb, .inl (ty.1, 2000, .inl (fun _ => 0)))]) rfl dX2_init_37 ?_
  refine g_aload_n C dX2_init_40 0 rfl rfl ?_
  refine g_bipush C dX2_init_41 (v := (nI 8)) (by decide) ?_
  refine g_newaI C hA (n := 8) (f := (fun _ => 0)) 6 rfl (fun _ => rfl) (Nat.le_of_ble_eq_true rfl) (Nat.le_of_ble_eq_true rfl) (Nat.le_of_ble_eq_true rfl) dX2_init_43 (fun kt => ?_)
  refine g_putF C hin 0 rfl rfl 5 (by decide) (fun _ h => (List.mem_cons_of_mem _ (List.mem_append_right _ h))) 10 rfl rfl rfl tyX2 tyX2_ok nmX2 rfl rfl rfl rfl (Nat.le_of_ble_eq_true rfl) (ws' := [(k0, .inr (1, [.int (nI 0), .ref kf, .ref ko, .ref ka, .ref kb, .ref kt, .null, .null])), (kf, .inl (ty.2.1, 2000, .inr (.inl (fun _ => 0)))), (ko, .inl (ty.1, 2000, .inl (fun _ => 0))), (ka, .inl (ty.1, 2000, .inl (fun _ => 0))), (kb, .inl (ty.1, 2000, .inl (fun _ => 0))), (kt, .inl (ty.1, 8, .inl (fun _ => 0)))]) rfl dX2_init_45 ?_
  refine g_aload_n C dX2_init_48 0 rfl rfl ?_
  refine g_sipush C dX2_init_49 (v := (nI 4096)) (by decide) ?_
  refine g_newaI C hA (n := 4096) (f := (fun _ => 0)) 6 rfl (fun _ => rfl) (Nat.le_of_ble_eq_true rfl) (Nat.le_of_ble_eq_true rfl) (Nat.le_of_ble_eq_true rfl) dX2_init_52 (fun kl => ?_)
  refine g_putF C hin 0 rfl rfl 6 (by decide) (fun _ h => (List.mem_cons_of_mem _ (List.mem_append_right _ h))) 11 rfl rfl rfl tyX2 tyX2_ok nmX2 rfl rfl rfl rfl (Nat.le_of_ble_eq_true rfl) (ws' := [(k0, .inr (1, [.int (nI 0), .ref kf, .ref ko, .ref ka, .ref kb, .ref kt, .ref kl, .null])), (kf, .inl (ty.2.1, 2000, .inr (.inl (fun _ => 0)))), (ko, .inl (ty.1, 2000, .inl (fun _ => 0))), (ka, .inl (ty.1, 2000, .inl (fun _ => 0))), (kb, .inl (ty.1, 2000, .inl (fun _ => 0))), (kt, .inl (ty.1, 8, .inl (fun _ => 0))), (kl, .inl (ty.1, 4096, .inl (fun _ => 0)))]) rfl dX2_init_54 ?_
  refine g_aload_n C dX2_init_57 0 rfl rfl ?_
  refine g_bipush C dX2_init_58 (v := (nI 13)) (by decide) ?_
  refine g_newaI C hA (n := 13) (f := (fun _ => 0)) 6 rfl (fun _ => rfl) (Nat.le_of_ble_eq_true rfl) (Nat.le_of_ble_eq_true rfl) (Nat.le_of_ble_eq_true rfl) dX2_init_60 (fun kp => ?_)
  refine g_putF C hin 0 rfl rfl 7 (by decide) (fun _ h => (List.mem_cons_of_mem _ (List.mem_append_right _ h))) 12 rfl rfl rfl tyX2 tyX2_ok nmX2 rfl rfl rfl rfl (Nat.le_of_ble_eq_true rfl) (ws' := [(k0, .inr (1, [.int (nI 0), .ref kf, .ref ko, .ref ka, .ref kb, .ref kt, .ref kl, .ref kp])), (kf, .inl (ty.2.1, 2000, .inr (.inl (fun _ => 0)))), (ko, .inl (ty.1, 2000, .inl (fun _ => 0))), (ka, .inl (ty.1, 2000, .inl (fun _ => 0))), (kb, .inl (ty.1, 2000, .inl (fun _ => 0))), (kt, .inl (ty.1, 8, .inl (fun _ => 0))), (kl, .inl (ty.1, 4096, .inl (fun _ => 0))), (kp, .inl (ty.1, 13, .inl (fun _ => 0)))]) rfl dX2_init_62 ?_
  refine g_aload_n C dX2_init_65 0 rfl rfl ?_
  refine g_get C 0 rfl rfl 6 (by decide) (fun _ h => (List.mem_cons_of_mem _ (List.mem_append_right _ h))) 11 rfl rfl rfl dX2_init_66 ?_
  refine g_iconst C dX2_init_69 (v := (-1)) (by decide) ?_
  refine g_callUS C ⟨g_X0_ok, trivial⟩ (t_J7_fill_53178 l D ty kl 4096 (by decide) (fun _ => 0) (-1)) rfl gX2_init_J7_fill_53178 2 (by decide +kernel) rfl ⟨rfl, rfl⟩ ⟨Nat.le_of_ble_eq_true rfl, Nat.le_of_ble_eq_true rfl⟩ (rest := []) hA [6] [0, 1, 2, 3, 4, 5, 7] rfl rfl rfl (wr := [(k0, .inr (1, [.int (nI 0), .ref kf, .ref ko, .ref ka, .ref kb, .ref kt, .ref kl, .ref kp])), (kf, .inl (ty.2.1, 2000, .inr (.inl (fun _ => 0)))), (ko, .inl (ty.1, 2000, .inl (fun _ => 0))), (ka, .inl (ty.1, 2000, .inl (fun _ => 0))), (kb, .inl (ty.1, 2000, .inl (fun _ => 0))), (kt, .inl (ty.1, 8, .inl (fun _ => 0))), (kp, .inl (ty.1, 13, .inl (fun _ => 0)))]) rfl rfl rfl (Nat.le_of_ble_eq_true rfl) dX2_init_70 ⟨Nat.le_of_ble_eq_true rfl, Nat.le_of_ble_eq_true rfl⟩ rfl (g_kuv (fun w hr => ?_))
  obtain ⟨sF70, hf70, rfl⟩ := hr
  refine g_ws (ws' := [(k0, .inr (1, [.int (nI 0), .ref kf, .ref ko, .ref ka, .ref kb, .ref kt, .ref kl, .ref kp])), (kf, .inl (ty.2.1, 2000, .inr (.inl (fun _ => 0)))), (ko, .inl (ty.1, 2000, .inl (fun _ => 0))), (ka, .inl (ty.1, 2000, .inl (fun _ => 0))), (kb, .inl (ty.1, 2000, .inl (fun _ => 0))), (kt, .inl (ty.1, 8, .inl (fun _ => 0))), (kl, .inl (ty.1, 4096, .inl sF70)), (kp, .inl (ty.1, 13, .inl (fun _ => 0)))]) [0, 1, 2, 3, 4, 5, 7, 6] rfl rfl rfl ?_
  refine hR _ _ _ _ _ dX2_init_73 ?_ (by omega) (by omega)
  exact ⟨_, _, _, _, _, _, _, _, hf70, rfl⟩

abbrev rm_t_X3_init : Room := ({ frames := 1, cells := 3, slots := 37, locals := 23 } : Room)
set_option maxHeartbeats 4000000 in
set_option maxRecDepth 100000 in
theorem t_X3_init (l : Launch) (D : va_G) (ty : g_T3) (s0 : Nat) : g_U l yX3_init wsX3_init rm_t_X3_init D ty g_X0 [.ref s0] [(s0, .inr (2, [.null, .null, .null]))] 3 37 (g_uv (fun w => ∃ (sp sa sc : Nat), w = [(s0, .inr (2, [.ref sp, .ref sa, .ref sc])), (sp, .inl (ty.1, 11, .inl (zN (fun _ => 1)))), (sa, .inl (ty.2.2, 10, .inl (zB (fun j => decide (j < 9))))), (sc, .inl (ty.2.2, 16, .inl (zB (va_up (fun _ => false) 1 true))))])) := by
  refine g_ofUv (cc := cX3_init) (nL := 2) (own := RX3) (by decide) rfl rfl g_X0_ok (Nat.le_of_ble_eq_true rfl) ?_
  intro p e s m args below meth c Q A C hA hX hin hR
  refine g_lv (lv' := [(0, .ref s0)]) [0] rfl ?_
  refine g_aload_n C dX3_init_0 0 rfl rfl ?_
  refine g_obj C 1 rfl 2 rfl 3 rfl dX3_init_1 (Nat.le_of_ble_eq_true rfl) (Nat.le_of_ble_eq_true rfl) (Nat.le_of_ble_eq_true rfl) ?_
  refine g_aload_n C dX3_init_4 0 rfl rfl ?_
  refine g_bipush C dX3_init_5 (v := (nI 11)) (by decide) ?_
  refine g_newaI C hA (n := 11) (f := (fun _ => 0)) 4 rfl (fun _ => rfl) (Nat.le_of_ble_eq_true rfl) (Nat.le_of_ble_eq_true rfl) (Nat.le_of_ble_eq_true rfl) dX3_init_7 (fun sp => ?_)
  refine g_putF C hin 0 rfl rfl 0 (by decide) (fun _ h => (List.mem_cons_of_mem _ (List.mem_append_right _ h))) 5 rfl rfl rfl tyX3 tyX3_ok nmX3 rfl rfl rfl rfl (Nat.le_of_ble_eq_true rfl) (ws' := [(s0, .inr (2, [.ref sp, .null, .null])), (sp, .inl (ty.1, 11, .inl (fun _ => 0)))]) rfl dX3_init_9 ?_
  refine g_aload_n C dX3_init_12 0 rfl rfl ?_
  refine g_bipush C dX3_init_13 (v := (nI 10)) (by decide) ?_
  refine g_newaZ C hA (n := 10) (f := (zB (fun j => decide (j < 0)))) 6 rfl (fun j => nI_0) (Nat.le_of_ble_eq_true rfl) (Nat.le_of_ble_eq_true rfl) (Nat.le_of_ble_eq_true rfl) dX3_init_15 (fun sa => ?_)
  refine g_putF C hin 0 rfl rfl 1 (by decide) (fun _ h => (List.mem_cons_of_mem _ (List.mem_append_right _ h))) 7 rfl rfl rfl tyX3 tyX3_ok nmX3 rfl rfl rfl rfl (Nat.le_of_ble_eq_true rfl) (ws' := [(s0, .inr (2, [.ref sp, .ref sa, .null])), (sp, .inl (ty.1, 11, .inl (fun _ => 0))), (sa, .inl (ty.2.2, 10, .inl (zB (fun j => decide (j < 0)))))]) rfl dX3_init_17 ?_
  refine g_aload_n C dX3_init_20 0 rfl rfl ?_
  refine g_bipush C dX3_init_21 (v := (nI 16)) (by decide) ?_
  refine g_newaZ C hA (n := 16) (f := (zB (fun _ => false))) 6 rfl (fun _ => nI_0) (Nat.le_of_ble_eq_true rfl) (Nat.le_of_ble_eq_true rfl) (Nat.le_of_ble_eq_true rfl) dX3_init_23 (fun sc => ?_)
  refine g_putF C hin 0 rfl rfl 2 (by decide) (fun _ h => (List.mem_cons_of_mem _ (List.mem_append_right _ h))) 8 rfl rfl rfl tyX3 tyX3_ok nmX3 rfl rfl rfl rfl (Nat.le_of_ble_eq_true rfl) (ws' := [(s0, .inr (2, [.ref sp, .ref sa, .ref sc])), (sp, .inl (ty.1, 11, .inl (fun _ => 0))), (sa, .inl (ty.2.2, 10, .inl (zB (fun j => decide (j < 0))))), (sc, .inl (ty.2.2, 16, .inl (zB (fun _ => false))))]) rfl dX3_init_25 ?_
  refine g_aload_n C dX3_init_28 0 rfl rfl ?_
  refine g_get C 0 rfl rfl 0 (by decide) (fun _ h => (List.mem_cons_of_mem _ (List.mem_append_right _ h))) 5 rfl rfl rfl dX3_init_29 ?_
  refine g_iconst C dX3_init_32 (v := (nI 1)) (by decide) ?_
  refine g_callUS C ⟨g_X0_ok, trivial⟩ (t_J7_fill_53178 l D ty sp 11 (by decide) (fun _ => 0) (nI 1)) rfl gX3_init_J7_fill_53178 2 (by decide +kernel) rfl ⟨rfl, rfl⟩ ⟨Nat.le_of_ble_eq_true rfl, Nat.le_of_ble_eq_true rfl⟩ (rest := []) hA [1] [0, 2, 3] rfl rfl rfl (wr := [(s0, .inr (2, [.ref sp, .ref sa, .ref sc])), (sa, .inl (ty.2.2, 10, .inl (zB (fun j => decide (j < 0))))), (sc, .inl (ty.2.2, 16, .inl (zB (fun _ => false))))]) rfl rfl rfl (Nat.le_of_ble_eq_true rfl) dX3_init_33 ⟨Nat.le_of_ble_eq_true rfl, Nat.le_of_ble_eq_true rfl⟩ rfl (g_kuv (fun w hr => ?_))
  obtain ⟨sF33, hf33, rfl⟩ := hr
  refine g_ws (ws' := [(s0, .inr (2, [.ref sp, .ref sa, .ref sc])), (sp, .inl (ty.1, 11, .inl sF33)), (sa, .inl (ty.2.2, 10, .inl (zB (fun j => decide (j < 0))))), (sc, .inl (ty.2.2, 16, .inl (zB (fun _ => false))))]) [0, 3, 1, 2] rfl rfl rfl ?_
  refine g_iconst C dX3_init_36 (v := (nI 0)) (by decide) ?_
  refine g_istore_n C dX3_init_37 rfl (by decide) (lv' := [(1, .int (nI 0)), (0, .ref s0)]) rfl ?_
  have L38 : ∀ (n9 : Nat) (i : Nat), 9 - i < n9 → (i ≤ 9) → gG (g_IU A D s) p l e rm_t_X3_init s m args below meth c Q 2 (((0 + 1) + 1) + 1) (((0 + 11) + 10) + 16) 38 [(1, .int (nI i)), (0, .ref s0)] [] [(s0, .inr (2, [.ref sp, .ref sa, .ref sc])), (sp, .inl (ty.1, 11, .inl sF33)), (sa, .inl (ty.2.2, 10, .inl (zB (fun j => decide (j < i))))), (sc, .inl (ty.2.2, 16, .inl (zB (fun _ => false))))] := by
    intro n9
    induction n9 with
    | zero => intro i hn; exact absurd hn (Nat.not_lt_zero _)
    | succ n9 ih38 =>
      intro i hn38 hi
      refine g_iload_n C dX3_init_38 0 rfl rfl ?_
      refine g_bipush C dX3_init_39 (v := (nI 9)) (by decide) ?_
      refine g_icmp_geN C dX3_init_41 (tgt := 57) (by decide) (by omega) (by omega) (fun h41 => ?_) (fun h41 => ?_)
      · skip
        obtain rfl : i = 9 := by omega
        refine g_aload_n C dX3_init_57 1 rfl rfl ?_
        refine g_get C 0 rfl rfl 2 (by decide) (fun _ h => (List.mem_cons_of_mem _ (List.mem_append_right _ h))) 8 rfl rfl rfl dX3_init_58 ?_
        refine g_iconst C dX3_init_61 (v := (nI 1)) (by decide) ?_
        refine g_iconst C dX3_init_62 (v := (nI 1)) (by decide) ?_
        refine g_zast C 3 rfl (by omega) (by omega) (f' := zB (va_up (fun _ => false) 1 true)) (zB_upd (fun _ => false) 1 true) (ws' := [(s0, .inr (2, [.ref sp, .ref sa, .ref sc])), (sp, .inl (ty.1, 11, .inl sF33)), (sa, .inl (ty.2.2, 10, .inl (zB (fun j => decide (j < 9))))), (sc, .inl (ty.2.2, 16, .inl (zB (va_up (fun _ => false) 1 true))))]) rfl dX3_init_63 ?_
        refine g_ct (f' := zN (fun _ => 1)) 1 rfl hf33 rfl ?_
        refine hR _ _ _ _ _ dX3_init_64 ?_ (by omega) (by omega)
        exact ⟨_, _, _, rfl⟩
      · skip
        refine g_aload_n C dX3_init_44 1 rfl rfl ?_
        refine g_get C 0 rfl rfl 1 (by decide) (fun _ h => (List.mem_cons_of_mem _ (List.mem_append_right _ h))) 7 rfl rfl rfl dX3_init_45 ?_
        refine g_iload_n C dX3_init_48 0 rfl rfl ?_
        refine g_iconst C dX3_init_49 (v := (nI 1)) (by decide) ?_
        refine g_zast C 2 rfl (by omega) (by omega) (f' := zB (fun j => decide (j < (i + 1)))) zB_lt (ws' := [(s0, .inr (2, [.ref sp, .ref sa, .ref sc])), (sp, .inl (ty.1, 11, .inl sF33)), (sa, .inl (ty.2.2, 10, .inl (zB (fun j => decide (j < (i + 1)))))), (sc, .inl (ty.2.2, 16, .inl (zB (fun _ => false))))]) rfl dX3_init_50 ?_
        refine g_iinc C dX3_init_51 0 rfl (v := (nI (i + 1))) (nI_1 i) (by decide) (lv' := [(1, .int (nI (i + 1))), (0, .ref s0)]) rfl ?_
        refine g_goto C dX3_init_54 (tgt := 38) (by decide) ?_
        exact ih38 (i + 1) (by omega) (by omega)
  exact L38 _ 0 (Nat.lt_succ_self _) (by omega)

abbrev rm_t_X5_init : Room := ({ frames := 2, cells := 16, slots := 12502, locals := 44 } : Room)
set_option maxHeartbeats 4000000 in
set_option maxRecDepth 100000 in
theorem t_X5_init (l : Launch) (D : va_G) (ty : g_T3) (x0 : Nat) : g_U l yX5_init wsX5_init rm_t_X5_init D ty g_XN [.ref x0] [(x0, .inr (4, [.null, .null, .null, .null]))] 16 12502 (g_uv (fun w => ∃ (s0 sp sa sc k0 kf ko ka kb kt kl kp p0 py t0 tz : Nat) (sF : Nat → Int32), (∀ k, k < 4096 → sF k = -1) ∧ w = [(x0, .inr (4, [.ref s0, .ref k0, .ref p0, .ref t0])), (s0, .inr (2, [.ref sp, .ref sa, .ref sc])), (sp, .inl (ty.1, 11, .inl (zN (fun _ => 1)))), (sa, .inl (ty.2.2, 10, .inl (zB (fun j => decide (j < 9))))), (sc, .inl (ty.2.2, 16, .inl (zB (va_up (fun _ => false) 1 true)))), (k0, .inr (1, [.int (nI 0), .ref kf, .ref ko, .ref ka, .ref kb, .ref kt, .ref kl, .ref kp])), (kf, .inl (ty.2.1, 2000, .inr (.inl (fun _ => 0)))), (ko, .inl (ty.1, 2000, .inl (fun _ => 0))), (ka, .inl (ty.1, 2000, .inl (fun _ => 0))), (kb, .inl (ty.1, 2000, .inl (fun _ => 0))), (kt, .inl (ty.1, 8, .inl (fun _ => 0))), (kl, .inl (ty.1, 4096, .inl sF)), (kp, .inl (ty.1, 13, .inl (fun _ => 0))), (p0, .inr (0, [.int (nI 0), .ref py])), (py, .inl (ty.1, 30, .inl (zN (fun _ => 0)))), (t0, .inr (3, [.int (nI 0), .long 0, .ref tz, .int (nI 0), .int (nI 0)])), (tz, .inl (ty.1, 300, .inl (zN (fun _ => 0))))])) := by
  refine g_ofUv (cc := cX5_init) (nL := 1) (own := RX5) (by decide) rfl rfl g_XN_ok (Nat.le_of_ble_eq_true rfl) ?_
  intro p e s m args below meth c Q A C hA hX hin hR
  refine g_lv (lv' := [(0, .ref x0)]) [0] rfl ?_
  refine g_aload_n C dX5_init_0 0 rfl rfl ?_
  refine g_obj C 1 rfl 2 rfl 3 rfl dX5_init_1 (Nat.le_of_ble_eq_true rfl) (Nat.le_of_ble_eq_true rfl) (Nat.le_of_ble_eq_true rfl) ?_
  refine g_aload_n C dX5_init_4 0 rfl rfl ?_
  refine g_new C hA (fun _ h => (List.mem_cons_of_mem _ (List.mem_append_left _ (List.mem_append_left _ (List.mem_append_left _ (List.mem_append_left _ (List.mem_append_right _ h))))))) tyX3 tyX3_ok 4 rfl 5 rfl 6 rfl (ci := 2) rfl (fs := [.null, .null, .null]) (by decide +kernel) (Nat.le_of_ble_eq_true rfl) (Nat.le_of_ble_eq_true rfl) dX5_init_5 (fun s0 => ?_)
  refine g_dup C dX5_init_8 rfl ?_
  refine g_callUI C ⟨g_X0_ok, trivial⟩ (t_X3_init l D ty s0) rfl ggX5_init_X3_init 6 20 21 rfl rfl rfl rfl 0 (by decide +kernel) rfl ⟨rfl, rfl⟩ ⟨Nat.le_of_ble_eq_true rfl, Nat.le_of_ble_eq_true rfl⟩ (rest := [.ref s0, .ref x0]) hA [1] [0] rfl rfl rfl (wr := [(x0, .inr (4, [.null, .null, .null, .null]))]) rfl rfl rfl (Nat.le_of_ble_eq_true rfl) dX5_init_9 ⟨Nat.le_of_ble_eq_true rfl, Nat.le_of_ble_eq_true rfl⟩ rfl (g_kuv (fun w hr => ?_))
  obtain ⟨sp, sa, sc, rfl⟩ := hr
  refine g_ws (ws' := [(x0, .inr (4, [.null, .null, .null, .null])), (s0, .inr (2, [.ref sp, .ref sa, .ref sc])), (sp, .inl (ty.1, 11, .inl (zN (fun _ => 1)))), (sa, .inl (ty.2.2, 10, .inl (zB (fun j => decide (j < 9))))), (sc, .inl (ty.2.2, 16, .inl (zB (va_up (fun _ => false) 1 true))))]) [0, 1, 2, 3, 4] rfl rfl rfl ?_
  refine g_putF C hin 0 rfl rfl 0 (by decide) (fun _ h => (List.mem_cons_of_mem _ (List.mem_append_left _ (List.mem_append_left _ (List.mem_append_left _ (List.mem_append_right _ h)))))) 7 rfl rfl rfl tyX5 tyX5_ok nmX5 rfl rfl rfl rfl (Nat.le_of_ble_eq_true rfl) (ws' := [(x0, .inr (4, [.ref s0, .null, .null, .null])), (s0, .inr (2, [.ref sp, .ref sa, .ref sc])), (sp, .inl (ty.1, 11, .inl (zN (fun _ => 1)))), (sa, .inl (ty.2.2, 10, .inl (zB (fun j => decide (j < 9))))), (sc, .inl (ty.2.2, 16, .inl (zB (va_up (fun _ => false) 1 true))))]) rfl dX5_init_12 ?_
  refine g_aload_n C dX5_init_15 0 rfl rfl ?_
  refine g_new C hA (fun _ h => (List.mem_cons_of_mem _ (List.mem_append_left _ (List.mem_append_left _ (List.mem_append_right _ h))))) tyX2 tyX2_ok 8 rfl 9 rfl 10 rfl (ci := 1) rfl (fs := [.int (nI 0), .null, .null, .null, .null, .null, .null, .null]) (by decide +kernel) (Nat.le_of_ble_eq_true rfl) (Nat.le_of_ble_eq_true rfl) dX5_init_16 (fun k0 => ?_)
  refine g_dup C dX5_init_19 rfl ?_
  refine g_callUI C ⟨g_X0_ok, trivial⟩ (t_X2_init l D ty k0) rfl ggX5_init_X2_init 10 33 34 rfl rfl rfl rfl 0 (by decide +kernel) rfl ⟨rfl, rfl⟩ ⟨Nat.le_of_ble_eq_true rfl, Nat.le_of_ble_eq_true rfl⟩ (rest := [.ref k0, .ref x0]) hA [5] [0, 1, 2, 3, 4] rfl rfl rfl (wr := [(x0, .inr (4, [.ref s0, .null, .null, .null])), (s0, .inr (2, [.ref sp, .ref sa, .ref sc])), (sp, .inl (ty.1, 11, .inl (zN (fun _ => 1)))), (sa, .inl (ty.2.2, 10, .inl (zB (fun j => decide (j < 9))))), (sc, .inl (ty.2.2, 16, .inl (zB (va_up (fun _ => false) 1 true))))]) rfl rfl rfl (Nat.le_of_ble_eq_true rfl) dX5_init_20 ⟨Nat.le_of_ble_eq_true rfl, Nat.le_of_ble_eq_true rfl⟩ rfl (g_kuv (fun w hr => ?_))
  obtain ⟨kf, ko, ka, kb, kt, kl, kp, sF, hsF, rfl⟩ := hr
  refine g_ws (ws' := [(x0, .inr (4, [.ref s0, .null, .null, .null])), (s0, .inr (2, [.ref sp, .ref sa, .ref sc])), (sp, .inl (ty.1, 11, .inl (zN (fun _ => 1)))), (sa, .inl (ty.2.2, 10, .inl (zB (fun j => decide (j < 9))))), (sc, .inl (ty.2.2, 16, .inl (zB (va_up (fun _ => false) 1 true)))), (k0, .inr (1, [.int (nI 0), .ref kf, .ref ko, .ref ka, .ref kb, .ref kt, .ref kl, .ref kp])), (kf, .inl (ty.2.1, 2000, .inr (.inl (fun _ => 0)))), (ko, .inl (ty.1, 2000, .inl (fun _ => 0))), (ka, .inl (ty.1, 2000, .inl (fun _ => 0))), (kb, .inl (ty.1, 2000, .inl (fun _ => 0))), (kt, .inl (ty.1, 8, .inl (fun _ => 0))), (kl, .inl (ty.1, 4096, .inl sF)), (kp, .inl (ty.1, 13, .inl (fun _ => 0)))]) [0, 1, 2, 3, 4, 5, 6, 7, 8, 9, 10, 11, 12] rfl rfl rfl ?_
  refine g_putF C hin 0 rfl rfl 1 (by decide) (fun _ h => (List.mem_cons_of_mem _ (List.mem_append_left _ (List.mem_append_left _ (List.mem_append_left _ (List.mem_append_right _ h)))))) 11 rfl rfl rfl tyX5 tyX5_ok nmX5 rfl rfl rfl rfl (Nat.le_of_ble_eq_true rfl) (ws' := [(x0, .inr (4, [.ref s0, .ref k0, .null, .null])), (s0, .inr (2, [.ref sp, .ref sa, .ref sc])), (sp, .inl (ty.1, 11, .inl (zN (fun _ => 1)))), (sa, .inl (ty.2.2, 10, .inl (zB (fun j => decide (j < 9))))), (sc, .inl (ty.2.2, 16, .inl (zB (va_up (fun _ => false) 1 true)))), (k0, .inr (1, [.int (nI 0), .ref kf, .ref ko, .ref ka, .ref kb, .ref kt, .ref kl, .ref kp])), (kf, .inl (ty.2.1, 2000, .inr (.inl (fun _ => 0)))), (ko, .inl (ty.1, 2000, .inl (fun _ => 0))), (ka, .inl (ty.1, 2000, .inl (fun _ => 0))), (kb, .inl (ty.1, 2000, .inl (fun _ => 0))), (kt, .inl (ty.1, 8, .inl (fun _ => 0))), (kl, .inl (ty.1, 4096, .inl sF)), (kp, .inl (ty.1, 13, .inl (fun _ => 0)))]) rfl dX5_init_23 ?_
  refine g_aload_n C dX5_init_26 0 rfl rfl ?_
  refine g_new C hA (fun _ h => (List.mem_cons_of_mem _ (List.mem_append_left _ (List.mem_append_right _ h)))) tyX1 tyX1_ok 12 rfl 13 rfl 14 rfl (ci := 0) rfl (fs := [.int (nI 0), .null]) (by decide +kernel) (Nat.le_of_ble_eq_true rfl) (Nat.le_of_ble_eq_true rfl) dX5_init_27 (fun p0 => ?_)
  refine g_dup C dX5_init_30 rfl ?_
  refine g_callUIN C ⟨g_X0_ok, trivial⟩ (t_X1_init l D ty p0) rfl (hX.2.1 0 (by decide)) ggX5_init_X1_init 14 46 rfl rfl rfl 0 (by decide +kernel) rfl ⟨rfl, rfl⟩ ⟨Nat.le_of_ble_eq_true rfl, Nat.le_of_ble_eq_true rfl⟩ (rest := [.ref p0, .ref x0]) hA [13] [0, 1, 2, 3, 4, 5, 6, 7, 8, 9, 10, 11, 12] rfl rfl rfl (wr := [(x0, .inr (4, [.ref s0, .ref k0, .null, .null])), (s0, .inr (2, [.ref sp, .ref sa, .ref sc])), (sp, .inl (ty.1, 11, .inl (zN (fun _ => 1)))), (sa, .inl (ty.2.2, 10, .inl (zB (fun j => decide (j < 9))))), (sc, .inl (ty.2.2, 16, .inl (zB (va_up (fun _ => false) 1 true)))), (k0, .inr (1, [.int (nI 0), .ref kf, .ref ko, .ref ka, .ref kb, .ref kt, .ref kl, .ref kp])), (kf, .inl (ty.2.1, 2000, .inr (.inl (fun _ => 0)))), (ko, .inl (ty.1, 2000, .inl (fun _ => 0))), (ka, .inl (ty.1, 2000, .inl (fun _ => 0))), (kb, .inl (ty.1, 2000, .inl (fun _ => 0))), (kt, .inl (ty.1, 8, .inl (fun _ => 0))), (kl, .inl (ty.1, 4096, .inl sF)), (kp, .inl (ty.1, 13, .inl (fun _ => 0)))]) rfl rfl rfl (Nat.le_of_ble_eq_true rfl) dX5_init_31 ⟨Nat.le_of_ble_eq_true rfl, Nat.le_of_ble_eq_true rfl⟩ rfl (g_kuv (fun w hr => ?_))
  obtain ⟨py, rfl⟩ := hr
  refine g_ws (ws' := [(x0, .inr (4, [.ref s0, .ref k0, .null, .null])), (s0, .inr (2, [.ref sp, .ref sa, .ref sc])), (sp, .inl (ty.1, 11, .inl (zN (fun _ => 1)))), (sa, .inl (ty.2.2, 10, .inl (zB (fun j => decide (j < 9))))), (sc, .inl (ty.2.2, 16, .inl (zB (va_up (fun _ => false) 1 true)))), (k0, .inr (1, [.int (nI 0), .ref kf, .ref ko, .ref ka, .ref kb, .ref kt, .ref kl, .ref kp])), (kf, .inl (ty.2.1, 2000, .inr (.inl (fun _ => 0)))), (ko, .inl (ty.1, 2000, .inl (fun _ => 0))), (ka, .inl (ty.1, 2000, .inl (fun _ => 0))), (kb, .inl (ty.1, 2000, .inl (fun _ => 0))), (kt, .inl (ty.1, 8, .inl (fun _ => 0))), (kl, .inl (ty.1, 4096, .inl sF)), (kp, .inl (ty.1, 13, .inl (fun _ => 0))), (p0, .inr (0, [.int (nI 0), .ref py])), (py, .inl (ty.1, 30, .inl (zN (fun _ => 0))))]) [0, 1, 2, 3, 4, 5, 6, 7, 8, 9, 10, 11, 12, 13, 14] rfl rfl rfl ?_
  refine g_putF C hin 0 rfl rfl 2 (by decide) (fun _ h => (List.mem_cons_of_mem _ (List.mem_append_left _ (List.mem_append_left _ (List.mem_append_left _ (List.mem_append_right _ h)))))) 15 rfl rfl rfl tyX5 tyX5_ok nmX5 rfl rfl rfl rfl (Nat.le_of_ble_eq_true rfl) (ws' := [(x0, .inr (4, [.ref s0, .ref k0, .ref p0, .null])), (s0, .inr (2, [.ref sp, .ref sa, .ref sc])), (sp, .inl (ty.1, 11, .inl (zN (fun _ => 1)))), (sa, .inl (ty.2.2, 10, .inl (zB (fun j => decide (j < 9))))), (sc, .inl (ty.2.2, 16, .inl (zB (va_up (fun _ => false) 1 true)))), (k0, .inr (1, [.int (nI 0), .ref kf, .ref ko, .ref ka, .ref kb, .ref kt, .ref kl, .ref kp])), (kf, .inl (ty.2.1, 2000, .inr (.inl (fun _ => 0)))), (ko, .inl (ty.1, 2000, .inl (fun _ => 0))), (ka, .inl (ty.1, 2000, .inl (fun _ => 0))), (kb, .inl (ty.1, 2000, .inl (fun _ => 0))), (kt, .inl (ty.1, 8, .inl (fun _ => 0))), (kl, .inl (ty.1, 4096, .inl sF)), (kp, .inl (ty.1, 13, .inl (fun _ => 0))), (p0, .inr (0, [.int (nI 0), .ref py])), (py, .inl (ty.1, 30, .inl (zN (fun _ => 0))))]) rfl dX5_init_34 ?_
  refine g_aload_n C dX5_init_37 0 rfl rfl ?_
  refine g_new C hA (fun _ h => (List.mem_cons_of_mem _ (List.mem_append_right _ h))) tyX4 tyX4_ok 16 rfl 17 rfl 18 rfl (ci := 3) rfl (fs := [.int (nI 0), .long 0, .null, .int (nI 0), .int (nI 0)]) (by decide +kernel) (Nat.le_of_ble_eq_true rfl) (Nat.le_of_ble_eq_true rfl) dX5_init_38 (fun t0 => ?_)
  refine g_dup C dX5_init_41 rfl ?_
  refine g_callUIN C ⟨g_X0_ok, trivial⟩ (t_X4_init l D ty t0) rfl (hX.2.1 1 (by decide)) ggX5_init_X4_init 18 50 rfl rfl rfl 0 (by decide +kernel) rfl ⟨rfl, rfl⟩ ⟨Nat.le_of_ble_eq_true rfl, Nat.le_of_ble_eq_true rfl⟩ (rest := [.ref t0, .ref x0]) hA [15] [0, 1, 2, 3, 4, 5, 6, 7, 8, 9, 10, 11, 12, 13, 14] rfl rfl rfl (wr := [(x0, .inr (4, [.ref s0, .ref k0, .ref p0, .null])), (s0, .inr (2, [.ref sp, .ref sa, .ref sc])), (sp, .inl (ty.1, 11, .inl (zN (fun _ => 1)))), (sa, .inl (ty.2.2, 10, .inl (zB (fun j => decide (j < 9))))), (sc, .inl (ty.2.2, 16, .inl (zB (va_up (fun _ => false) 1 true)))), (k0, .inr (1, [.int (nI 0), .ref kf, .ref ko, .ref ka, .ref kb, .ref kt, .ref kl, .ref kp])), (kf, .inl (ty.2.1, 2000, .inr (.inl (fun _ => 0)))), (ko, .inl (ty.1, 2000, .inl (fun _ => 0))), (ka, .inl (ty.1, 2000, .inl (fun _ => 0))), (kb, .inl (ty.1, 2000, .inl (fun _ => 0))), (kt, .inl (ty.1, 8, .inl (fun _ => 0))), (kl, .inl (ty.1, 4096, .inl sF)), (kp, .inl (ty.1, 13, .inl (fun _ => 0))), (p0, .inr (0, [.int (nI 0), .ref py])), (py, .inl (ty.1, 30, .inl (zN (fun _ => 0))))]) rfl rfl rfl (Nat.le_of_ble_eq_true rfl) dX5_init_42 ⟨Nat.le_of_ble_eq_true rfl, Nat.le_of_ble_eq_true rfl⟩ rfl (g_kuv (fun w hr => ?_))
  obtain ⟨tz, rfl⟩ := hr
  refine g_ws (ws' := [(x0, .inr (4, [.ref s0, .ref k0, .ref p0, .null])), (s0, .inr (2, [.ref sp, .ref sa, .ref sc])), (sp, .inl (ty.1, 11, .inl (zN (fun _ => 1)))), (sa, .inl (ty.2.2, 10, .inl (zB (fun j => decide (j < 9))))), (sc, .inl (ty.2.2, 16, .inl (zB (va_up (fun _ => false) 1 true)))), (k0, .inr (1, [.int (nI 0), .ref kf, .ref ko, .ref ka, .ref kb, .ref kt, .ref kl, .ref kp])), (kf, .inl (ty.2.1, 2000, .inr (.inl (fun _ => 0)))), (ko, .inl (ty.1, 2000, .inl (fun _ => 0))), (ka, .inl (ty.1, 2000, .inl (fun _ => 0))), (kb, .inl (ty.1, 2000, .inl (fun _ => 0))), (kt, .inl (ty.1, 8, .inl (fun _ => 0))), (kl, .inl (ty.1, 4096, .inl sF)), (kp, .inl (ty.1, 13, .inl (fun _ => 0))), (p0, .inr (0, [.int (nI 0), .ref py])), (py, .inl (ty.1, 30, .inl (zN (fun _ => 0)))), (t0, .inr (3, [.int (nI 0), .long 0, .ref tz, .int (nI 0), .int (nI 0)])), (tz, .inl (ty.1, 300, .inl (zN (fun _ => 0))))]) [0, 1, 2, 3, 4, 5, 6, 7, 8, 9, 10, 11, 12, 13, 14, 15, 16] rfl rfl rfl ?_
  refine g_putF C hin 0 rfl rfl 3 (by decide) (fun _ h => (List.mem_cons_of_mem _ (List.mem_append_left _ (List.mem_append_left _ (List.mem_append_left _ (List.mem_append_right _ h)))))) 19 rfl rfl rfl tyX5 tyX5_ok nmX5 rfl rfl rfl rfl (Nat.le_of_ble_eq_true rfl) (ws' := [(x0, .inr (4, [.ref s0, .ref k0, .ref p0, .ref t0])), (s0, .inr (2, [.ref sp, .ref sa, .ref sc])), (sp, .inl (ty.1, 11, .inl (zN (fun _ => 1)))), (sa, .inl (ty.2.2, 10, .inl (zB (fun j => decide (j < 9))))), (sc, .inl (ty.2.2, 16, .inl (zB (va_up (fun _ => false) 1 true)))), (k0, .inr (1, [.int (nI 0), .ref kf, .ref ko, .ref ka, .ref kb, .ref kt, .ref kl, .ref kp])), (kf, .inl (ty.2.1, 2000, .inr (.inl (fun _ => 0)))), (ko, .inl (ty.1, 2000, .inl (fun _ => 0))), (ka, .inl (ty.1, 2000, .inl (fun _ => 0))), (kb, .inl (ty.1, 2000, .inl (fun _ => 0))), (kt, .inl (ty.1, 8, .inl (fun _ => 0))), (kl, .inl (ty.1, 4096, .inl sF)), (kp, .inl (ty.1, 13, .inl (fun _ => 0))), (p0, .inr (0, [.int (nI 0), .ref py])), (py, .inl (ty.1, 30, .inl (zN (fun _ => 0)))), (t0, .inr (3, [.int (nI 0), .long 0, .ref tz, .int (nI 0), .int (nI 0)])), (tz, .inl (ty.1, 300, .inl (zN (fun _ => 0))))]) rfl dX5_init_45 ?_
  refine hR _ _ _ _ _ dX5_init_48 ?_ (by omega) (by omega)
  exact ⟨_, _, _, _, _, _, _, _, _, _, _, _, _, _, _, _, _, hsF, rfl⟩



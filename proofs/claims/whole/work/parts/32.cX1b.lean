
set_option maxHeartbeats 4000000 in
set_option maxRecDepth 100000 in
theorem t_X1_putEntry (l : Launch) (D : va_G) (ty : g_T3) (p0 py : Nat) (k0 kf ko ka kb kt kl kp : Nat) (es : List Ent) (oF aF bF : Nat → Int32) (hr0 : ∀ i, i < es.length → oF i = eO es i ∧ aF i = eA es i ∧ bF i = eB es i) (hwf : wfE es) (hl0 : es.length ≤ 2000) (n : Nat) (hA1 : ∀ (pb : Nat → Nat) (nv dv x : Nat), x < es.length → eC es x < n → nv + (agE es n x).length ≤ 30 → dv + n ≤ 7 → g_U l yX1_putArgument wsX1_putArgument ({ frames := 3 * n + 11, cells := 0, slots := 0, locals := 100 * n + 260 } : Room) D ty g_XN [.ref p0, .ref k0, .int (nI x), .int (nI dv)] [(p0, .inr (0, [.int (nI nv), .ref py])), (py, .inl (ty.1, 30, .inl (zN pb))), (k0, .inr (1, [.int (nI es.length), .ref kf, .ref ko, .ref ka, .ref kb, .ref kt, .ref kl, .ref kp])), (ko, .inl (ty.1, 2000, .inl oF)), (ka, .inl (ty.1, 2000, .inl aF)), (kb, .inl (ty.1, 2000, .inl bF))] 0 0 (g_uv (fun w => w = [(p0, .inr (0, [.int (nI (nv + (agE es n x).length)), .ref py])), (py, .inl (ty.1, 30, .inl (zN (apL pb nv (agE es n x))))), (k0, .inr (1, [.int (nI es.length), .ref kf, .ref ko, .ref ka, .ref kb, .ref kt, .ref kl, .ref kp])), (ko, .inl (ty.1, 2000, .inl oF)), (ka, .inl (ty.1, 2000, .inl aF)), (kb, .inl (ty.1, 2000, .inl bF))]))) (pb : Nat → Nat) (nv dv i : Nat) (hi : i < es.length) (hci : eC es i < n + 1) (hbl : nv + (fmE es (n + 1) i).length ≤ 30) (hdv : dv + (n + 1) ≤ 7) : g_U l yX1_putEntry wsX1_putEntry ({ frames := 3 * (n + 1) + 10, cells := 0, slots := 0, locals := 100 * (n + 1) + 200 } : Room) D ty g_XN [.ref p0, .ref k0, .int (nI i), .int (nI dv)] [(p0, .inr (0, [.int (nI nv), .ref py])), (py, .inl (ty.1, 30, .inl (zN pb))), (k0, .inr (1, [.int (nI es.length), .ref kf, .ref ko, .ref ka, .ref kb, .ref kt, .ref kl, .ref kp])), (ko, .inl (ty.1, 2000, .inl oF)), (ka, .inl (ty.1, 2000, .inl aF)), (kb, .inl (ty.1, 2000, .inl bF))] 0 0 (g_uv (fun w => w = [(p0, .inr (0, [.int (nI (nv + (fmE es (n + 1) i).length)), .ref py])), (py, .inl (ty.1, 30, .inl (zN (apL pb nv (fmE es (n + 1) i))))), (k0, .inr (1, [.int (nI es.length), .ref kf, .ref ko, .ref ka, .ref kb, .ref kt, .ref kl, .ref kp])), (ko, .inl (ty.1, 2000, .inl oF)), (ka, .inl (ty.1, 2000, .inl aF)), (kb, .inl (ty.1, 2000, .inl bF))])) := by
  refine g_ofUv (cc := cX1_putEntry) (nL := 5) (own := RX1) (by decide) rfl rfl g_XN_ok (Nat.le_of_ble_eq_true rfl) ?_
  intro p e s m args below meth c Q A C hA hX hin hR
  refine g_lv (lv' := [(0, .ref p0), (1, .ref k0), (2, .int (nI i)), (3, .int (nI dv))]) [0, 1, 2, 3] rfl ?_
  obtain ⟨tS, hZ, hT⟩ := hX.2.2.2.1
  refine g_aload_n C dX1_putEntry_0 1 rfl rfl ?_
  refine g_iload_n C dX1_putEntry_1 2 rfl rfl ?_
  refine g_callPV C ⟨g_X0_ok, trivial⟩ (t_X2_has l D ty k0 kf ko ka kb kt kl kp es.length (by omega) (nI i)) rfl gX1_putEntry_X2_has 1 (by decide +kernel) rfl ⟨rfl, rfl⟩ ⟨Nat.le_of_ble_eq_true rfl, Nat.le_of_ble_eq_true rfl⟩ (rest := []) (q0 := 2) rfl rfl [2] rfl (Nat.le_of_ble_eq_true rfl) dX1_putEntry_2 ⟨Nat.le_of_ble_eq_true rfl, Nat.le_of_ble_eq_true rfl⟩ rfl (g_ki (fun r hr => ?_))
  subst hr
  have := bt_lt (hsB (nI i) es.length)
  refine g_if_eqN C dX1_putEntry_5 (tgt := 14) (by decide) (by omega) (fun h5 => ?_) (fun h5 => ?_)
  · skip
    rw [hs_nI hi (by omega)] at h5
    exact absurd h5 (by decide)
  · skip
    refine g_iload_n C dX1_putEntry_8 3 rfl rfl ?_
    refine g_bipush C dX1_putEntry_9 (v := (nI 6)) (by decide) ?_
    refine g_icmp_leN C dX1_putEntry_11 (tgt := 15) (by decide) (by omega) (by omega) (fun h11 => ?_) (fun h11 => ?_)
    · skip
      obtain ⟨hc6, hk⟩ := hwf i hi
      refine g_aload_n C dX1_putEntry_15 1 rfl rfl ?_
      refine g_get C 2 rfl rfl 2 (by decide) (fun _ h => (List.mem_cons_of_mem _ (List.mem_append_left _ (List.mem_append_right _ h)))) 1 rfl rfl rfl dX1_putEntry_16 ?_
      refine g_iload_n C dX1_putEntry_19 2 rfl rfl ?_
      refine g_iald C (v := (eO es i)) 3 rfl (by omega) (by omega) (hr0 i hi).1 dX1_putEntry_20 ?_
      refine g_istore C dX1_putEntry_21 (by decide) (lv' := [(4, .int (eO es i)), (0, .ref p0), (1, .ref k0), (2, .int (nI i)), (3, .int (nI dv))]) rfl ?_
      refine g_iload C dX1_putEntry_23 0 rfl ?_
      refine g_iconst C dX1_putEntry_25 (v := (-1)) (by decide) ?_
      refine g_icmp_ne C dX1_putEntry_26 (tgt := 38) (by decide) (fun h26 => ?_) (fun h26 => ?_)
      · skip
        refine g_iload C dX1_putEntry_38 0 rfl ?_
        refine g_bipush C dX1_putEntry_40 (v := (-2)) (by decide) ?_
        refine g_icmp_ne C dX1_putEntry_42 (tgt := 58) (by decide) (fun h42 => ?_) (fun h42 => ?_)
        · skip
          refine g_iload C dX1_putEntry_58 0 rfl ?_
          refine g_callPSN C ⟨g_X0_ok, trivial⟩ (t_X5_hasTwoArguments l D ty (eO es i)) rfl (hX.2.1 7 (by decide)) ggX1_putEntry_X5_hasTwoArguments 22 21 rfl rfl 1 (by decide +kernel) rfl ⟨rfl, rfl⟩ ⟨Nat.le_of_ble_eq_true rfl, Nat.le_of_ble_eq_true rfl⟩ (rest := []) [] rfl (Nat.le_of_ble_eq_true rfl) dX1_putEntry_60 ⟨Nat.le_of_ble_eq_true rfl, Nat.le_of_ble_eq_true rfl⟩ rfl (g_ki (fun r hr => ?_))
          subst hr
          have := bt_lt (inB (eO es i) (nI 4) (nI 9))
          refine g_if_eqN C dX1_putEntry_63 (tgt := 107) (by decide) (by omega) (fun h63 => ?_) (fun h63 => ?_)
          · skip
            have h63b := in_0 h63
            have c4 := nI_toInt (n := 4) (by decide)
            have c9 := nI_toInt (n := 9) (by decide)
            have c0 := nI_toInt (n := 0) (by decide)
            obtain ⟨o, a, ho, hoe, ha, hae, hbe, hcc⟩ : ∃ o a, o < 4 ∧ eO es i = nI o ∧ a < i ∧ eA es i = nI a ∧ eB es i = -1 ∧ eC es a + 1 ≤ eC es i := by
              rcases hk with ⟨z, -⟩ | ⟨z, -⟩ | z | ⟨o, a, b, z1, z2, z3, -⟩
              · exact absurd (t_eq.mp z) h26
              · exact absurd (t_eq.mp z) h42
              · exact z
              · have zz := nI_toInt (n := o) (by omega); rw [z3] at h63b; omega
            have hL := fm_1 (n := n) ho hoe hae (by omega)
            rw [hL] at hbl
            have hbl2 : nv + ((agE es n a).length + 1) ≤ 30 := hbl
            rw [hoe]
            refine g_iload C dX1_putEntry_107 0 rfl ?_
            refine g_callPSN C ⟨g_X0_ok, trivial⟩ (t_X5_isOperation l D ty (nI o)) rfl (hX.2.1 8 (by decide)) ggX1_putEntry_X5_isOperation 22 27 rfl rfl 1 (by decide +kernel) rfl ⟨rfl, rfl⟩ ⟨Nat.le_of_ble_eq_true rfl, Nat.le_of_ble_eq_true rfl⟩ (rest := []) [] rfl (Nat.le_of_ble_eq_true rfl) dX1_putEntry_109 ⟨Nat.le_of_ble_eq_true rfl, Nat.le_of_ble_eq_true rfl⟩ rfl (g_ki (fun r hr => ?_))
            subst hr
            have := bt_lt (inB (nI o) (nI 0) (nI 9))
            refine g_if_eqN C dX1_putEntry_112 (tgt := 139) (by decide) (by omega) (fun h112 => ?_) (fun h112 => ?_)
            · skip
              exact absurd (in_0 h112) (by rw [nI_toInt (show o < 2 ^ 31 by omega)]; omega)
            · skip
              refine g_aload_n C dX1_putEntry_115 1 rfl rfl ?_
              refine g_getsN C (host := RX5) (ref := RX5) hZ (hX.2.2.1 1 (by decide)) rfl dX1_putEntry_116 ?_
              refine g_iload C dX1_putEntry_119 0 rfl ?_
              refine g_tc C hT (by omega) (by decide) rfl dX1_putEntry_121 ?_
              refine g_callUV C ⟨g_X0_ok, trivial⟩ (t_X1_put l D ty p0 py pb nv (sgn o) (by omega)) rfl gX1_putEntry_X1_put 1 (by decide +kernel) rfl ⟨rfl, rfl⟩ ⟨Nat.le_of_ble_eq_true rfl, Nat.le_of_ble_eq_true rfl⟩ (rest := []) (q0 := 0) rfl rfl hA [0, 1] [2, 3, 4, 5] rfl rfl rfl (wr := [(k0, .inr (1, [.int (nI es.length), .ref kf, .ref ko, .ref ka, .ref kb, .ref kt, .ref kl, .ref kp])), (ko, .inl (ty.1, 2000, .inl oF)), (ka, .inl (ty.1, 2000, .inl aF)), (kb, .inl (ty.1, 2000, .inl bF))]) rfl rfl rfl (Nat.le_of_ble_eq_true rfl) dX1_putEntry_122 ⟨Nat.le_of_ble_eq_true rfl, Nat.le_of_ble_eq_true rfl⟩ rfl (g_kuv (fun w hr => ?_))
              subst hr
              refine g_ws (ws' := [(p0, .inr (0, [.int (nI (nv + 1)), .ref py])), (py, .inl (ty.1, 30, .inl (zN (va_up pb nv (sgn o))))), (k0, .inr (1, [.int (nI es.length), .ref kf, .ref ko, .ref ka, .ref kb, .ref kt, .ref kl, .ref kp])), (ko, .inl (ty.1, 2000, .inl oF)), (ka, .inl (ty.1, 2000, .inl aF)), (kb, .inl (ty.1, 2000, .inl bF))]) [4, 5, 0, 1, 2, 3] rfl rfl rfl ?_
              refine g_aload_n C dX1_putEntry_125 1 rfl rfl ?_
              refine g_aload_n C dX1_putEntry_126 2 rfl rfl ?_
              refine g_aload_n C dX1_putEntry_127 2 rfl rfl ?_
              refine g_get C 2 rfl rfl 3 (by decide) (fun _ h => (List.mem_cons_of_mem _ (List.mem_append_left _ (List.mem_append_right _ h)))) 2 rfl rfl rfl dX1_putEntry_128 ?_
              refine g_iload_n C dX1_putEntry_131 3 rfl rfl ?_
              refine g_iald C (v := (nI a)) 4 rfl (by omega) (by omega) ((hr0 i hi).2.1.trans hae) dX1_putEntry_132 ?_
              refine g_iload_n C dX1_putEntry_133 4 rfl rfl ?_
              refine g_iconst C dX1_putEntry_134 (v := (nI 1)) (by decide) ?_
              refine g_iadd C dX1_putEntry_135 (v := (nI (dv + 1))) (nI_add _ _) ?_
              refine g_callUV C hX (hA1 (va_up pb nv (sgn o)) (nv + 1) (dv + 1) a (by omega) (by omega) (by omega) (by omega)) rfl gX1_putEntry_X1_putArgument 3 (by decide +kernel) rfl ⟨rfl, rfl⟩ ⟨by show _ ≤ _; simp only []; omega, by show _ ≤ _; simp only []; omega⟩ (rest := []) (q0 := 0) rfl rfl hA [0, 1, 2, 3, 4, 5] [] rfl rfl rfl (wr := []) rfl rfl rfl (Nat.le_of_ble_eq_true rfl) dX1_putEntry_136 ⟨Nat.le_of_ble_eq_true rfl, Nat.le_of_ble_eq_true rfl⟩ rfl (g_kuv (fun w hr => ?_))
              subst hr
              refine g_ws (ws' := [(p0, .inr (0, [.int (nI ((nv + 1) + (agE es n a).length)), .ref py])), (py, .inl (ty.1, 30, .inl (zN (apL (va_up pb nv (sgn o)) (nv + 1) (agE es n a))))), (k0, .inr (1, [.int (nI es.length), .ref kf, .ref ko, .ref ka, .ref kb, .ref kt, .ref kl, .ref kp])), (ko, .inl (ty.1, 2000, .inl oF)), (ka, .inl (ty.1, 2000, .inl aF)), (kb, .inl (ty.1, 2000, .inl bF))]) [0, 1, 2, 3, 4, 5] rfl rfl rfl ?_
              refine hR _ _ _ _ _ dX1_putEntry_139 ?_ (by omega) (by omega)
              first
              | (rw [hL, e2, apL_app]; rfl)
              | (rw [hL, show nv + (sgn o :: agE es n a).length = nv + 1 + (agE es n a).length from by simp; omega]; rfl)
              | (rw [hL] <;> rfl)
          · skip
            have h63b := in_1 h63
            have c4 := nI_toInt (n := 4) (by decide)
            have c9 := nI_toInt (n := 9) (by decide)
            have c0 := nI_toInt (n := 0) (by decide)
            obtain ⟨o, a, b, ho, ho2, hoe, ha, hae, hb, hbe, hcc⟩ : ∃ o a b, 4 ≤ o ∧ o < 10 ∧ eO es i = nI o ∧ a < i ∧ eA es i = nI a ∧ b < i ∧ eB es i = nI b ∧ eC es a + eC es b + 1 ≤ eC es i := by
              rcases hk with ⟨z, -⟩ | ⟨z, -⟩ | ⟨o, a, z1, z2, -⟩ | z
              · exact absurd (t_eq.mp z) h26
              · exact absurd (t_eq.mp z) h42
              · have zz := nI_toInt (n := o) (by omega); rw [z2] at h63b; omega
              · exact z
            have hL := fm_2 (n := n) ho ho2 hoe hae hbe (by omega) (by omega)
            rw [hL] at hbl
            have e2 : nv + (agE es n a ++ sgn o :: agE es n b).length = nv + (agE es n a).length + 1 + (agE es n b).length := by simp; omega
            rw [e2] at hbl
            rw [hoe]
            refine g_aload_n C dX1_putEntry_66 1 rfl rfl ?_
            refine g_aload_n C dX1_putEntry_67 2 rfl rfl ?_
            refine g_aload_n C dX1_putEntry_68 2 rfl rfl ?_
            refine g_get C 2 rfl rfl 3 (by decide) (fun _ h => (List.mem_cons_of_mem _ (List.mem_append_left _ (List.mem_append_right _ h)))) 2 rfl rfl rfl dX1_putEntry_69 ?_
            refine g_iload_n C dX1_putEntry_72 3 rfl rfl ?_
            refine g_iald C (v := (nI a)) 4 rfl (by omega) (by omega) ((hr0 i hi).2.1.trans hae) dX1_putEntry_73 ?_
            refine g_iload_n C dX1_putEntry_74 4 rfl rfl ?_
            refine g_iconst C dX1_putEntry_75 (v := (nI 1)) (by decide) ?_
            refine g_iadd C dX1_putEntry_76 (v := (nI (dv + 1))) (nI_add _ _) ?_
            refine g_callUV C hX (hA1 pb nv (dv + 1) a (by omega) (by omega) (by omega) (by omega)) rfl gX1_putEntry_X1_putArgument 3 (by decide +kernel) rfl ⟨rfl, rfl⟩ ⟨by show _ ≤ _; simp only []; omega, by show _ ≤ _; simp only []; omega⟩ (rest := []) (q0 := 0) rfl rfl hA [0, 1, 2, 3, 4, 5] [] rfl rfl rfl (wr := []) rfl rfl rfl (Nat.le_of_ble_eq_true rfl) dX1_putEntry_77 ⟨Nat.le_of_ble_eq_true rfl, Nat.le_of_ble_eq_true rfl⟩ rfl (g_kuv (fun w hr => ?_))
            subst hr
            refine g_ws (ws' := [(p0, .inr (0, [.int (nI (nv + (agE es n a).length)), .ref py])), (py, .inl (ty.1, 30, .inl (zN (apL pb nv (agE es n a))))), (k0, .inr (1, [.int (nI es.length), .ref kf, .ref ko, .ref ka, .ref kb, .ref kt, .ref kl, .ref kp])), (ko, .inl (ty.1, 2000, .inl oF)), (ka, .inl (ty.1, 2000, .inl aF)), (kb, .inl (ty.1, 2000, .inl bF))]) [0, 1, 2, 3, 4, 5] rfl rfl rfl ?_
            refine g_aload_n C dX1_putEntry_80 1 rfl rfl ?_
            refine g_getsN C (host := RX5) (ref := RX5) hZ (hX.2.2.1 1 (by decide)) rfl dX1_putEntry_81 ?_
            refine g_iload C dX1_putEntry_84 0 rfl ?_
            refine g_tc C hT (by omega) (by decide) rfl dX1_putEntry_86 ?_
            refine g_callUV C ⟨g_X0_ok, trivial⟩ (t_X1_put l D ty p0 py (apL pb nv (agE es n a)) (nv + (agE es n a).length) (sgn o) (by omega)) rfl gX1_putEntry_X1_put 1 (by decide +kernel) rfl ⟨rfl, rfl⟩ ⟨Nat.le_of_ble_eq_true rfl, Nat.le_of_ble_eq_true rfl⟩ (rest := []) (q0 := 0) rfl rfl hA [0, 1] [2, 3, 4, 5] rfl rfl rfl (wr := [(k0, .inr (1, [.int (nI es.length), .ref kf, .ref ko, .ref ka, .ref kb, .ref kt, .ref kl, .ref kp])), (ko, .inl (ty.1, 2000, .inl oF)), (ka, .inl (ty.1, 2000, .inl aF)), (kb, .inl (ty.1, 2000, .inl bF))]) rfl rfl rfl (Nat.le_of_ble_eq_true rfl) dX1_putEntry_87 ⟨Nat.le_of_ble_eq_true rfl, Nat.le_of_ble_eq_true rfl⟩ rfl (g_kuv (fun w hr => ?_))
            subst hr
            refine g_ws (ws' := [(p0, .inr (0, [.int (nI ((nv + (agE es n a).length) + 1)), .ref py])), (py, .inl (ty.1, 30, .inl (zN (va_up (apL pb nv (agE es n a)) (nv + (agE es n a).length) (sgn o))))), (k0, .inr (1, [.int (nI es.length), .ref kf, .ref ko, .ref ka, .ref kb, .ref kt, .ref kl, .ref kp])), (ko, .inl (ty.1, 2000, .inl oF)), (ka, .inl (ty.1, 2000, .inl aF)), (kb, .inl (ty.1, 2000, .inl bF))]) [4, 5, 0, 1, 2, 3] rfl rfl rfl ?_
            refine g_aload_n C dX1_putEntry_90 1 rfl rfl ?_
            refine g_aload_n C dX1_putEntry_91 2 rfl rfl ?_
            refine g_aload_n C dX1_putEntry_92 2 rfl rfl ?_
            refine g_get C 2 rfl rfl 4 (by decide) (fun _ h => (List.mem_cons_of_mem _ (List.mem_append_left _ (List.mem_append_right _ h)))) 3 rfl rfl rfl dX1_putEntry_93 ?_
            refine g_iload_n C dX1_putEntry_96 3 rfl rfl ?_
            refine g_iald C (v := (nI b)) 5 rfl (by omega) (by omega) ((hr0 i hi).2.2.trans hbe) dX1_putEntry_97 ?_
            refine g_iload_n C dX1_putEntry_98 4 rfl rfl ?_
            refine g_iconst C dX1_putEntry_99 (v := (nI 1)) (by decide) ?_
            refine g_iadd C dX1_putEntry_100 (v := (nI (dv + 1))) (nI_add _ _) ?_
            refine g_callUV C hX (hA1 (va_up (apL pb nv (agE es n a)) (nv + (agE es n a).length) (sgn o)) ((nv + (agE es n a).length) + 1) (dv + 1) b (by omega) (by omega) (by omega) (by omega)) rfl gX1_putEntry_X1_putArgument 3 (by decide +kernel) rfl ⟨rfl, rfl⟩ ⟨by show _ ≤ _; simp only []; omega, by show _ ≤ _; simp only []; omega⟩ (rest := []) (q0 := 0) rfl rfl hA [0, 1, 2, 3, 4, 5] [] rfl rfl rfl (wr := []) rfl rfl rfl (Nat.le_of_ble_eq_true rfl) dX1_putEntry_101 ⟨Nat.le_of_ble_eq_true rfl, Nat.le_of_ble_eq_true rfl⟩ rfl (g_kuv (fun w hr => ?_))
            subst hr
            refine g_ws (ws' := [(p0, .inr (0, [.int (nI (((nv + (agE es n a).length) + 1) + (agE es n b).length)), .ref py])), (py, .inl (ty.1, 30, .inl (zN (apL (va_up (apL pb nv (agE es n a)) (nv + (agE es n a).length) (sgn o)) ((nv + (agE es n a).length) + 1) (agE es n b))))), (k0, .inr (1, [.int (nI es.length), .ref kf, .ref ko, .ref ka, .ref kb, .ref kt, .ref kl, .ref kp])), (ko, .inl (ty.1, 2000, .inl oF)), (ka, .inl (ty.1, 2000, .inl aF)), (kb, .inl (ty.1, 2000, .inl bF))]) [0, 1, 2, 3, 4, 5] rfl rfl rfl ?_
            refine g_goto C dX1_putEntry_104 (tgt := 139) (by decide) ?_
            refine hR _ _ _ _ _ dX1_putEntry_139 ?_ (by omega) (by omega)
            first
            | (rw [hL, e2, apL_app]; rfl)
            | (rw [hL, show nv + (sgn o :: agE es n a).length = nv + 1 + (agE es n a).length from by simp; omega]; rfl)
            | (rw [hL] <;> rfl)
        · skip
          obtain ⟨v, hv, hva⟩ : ∃ v, v < 16 ∧ eA es i = nI v := by
            rcases hk with ⟨z, -⟩ | ⟨-, z, -⟩ | ⟨o, a, z1, z2, -⟩ | ⟨o, a, b, z1, z2, z3, -⟩
            · exact absurd (t_eq.mp z) h26
            · exact z
            · exact absurd (z2.symm.trans (t_eq.mpr h42)) (nI_m2 (by omega))
            · exact absurd (z3.symm.trans (t_eq.mpr h42)) (nI_m2 (by omega))
          have hL := fm_c (n := n) (t_eq.mpr h42) hva hv
          rw [hL] at hbl
          refine g_aload_n C dX1_putEntry_45 1 rfl rfl ?_
          refine g_aload_n C dX1_putEntry_46 2 rfl rfl ?_
          refine g_get C 2 rfl rfl 3 (by decide) (fun _ h => (List.mem_cons_of_mem _ (List.mem_append_left _ (List.mem_append_right _ h)))) 2 rfl rfl rfl dX1_putEntry_47 ?_
          refine g_iload_n C dX1_putEntry_50 3 rfl rfl ?_
          refine g_iald C (v := (nI v)) 4 rfl (by omega) (by omega) ((hr0 i hi).2.1.trans hva) dX1_putEntry_51 ?_
          refine g_callUV C ⟨g_X0_ok, trivial⟩ (t_X1_putNumber l D ty p0 py pb nv v (by omega) (by omega)) rfl gX1_putEntry_X1_putNumber 1 (by decide +kernel) rfl ⟨rfl, rfl⟩ ⟨Nat.le_of_ble_eq_true rfl, Nat.le_of_ble_eq_true rfl⟩ (rest := []) (q0 := 0) rfl rfl hA [0, 1] [2, 3, 4, 5] rfl rfl rfl (wr := [(k0, .inr (1, [.int (nI es.length), .ref kf, .ref ko, .ref ka, .ref kb, .ref kt, .ref kl, .ref kp])), (ko, .inl (ty.1, 2000, .inl oF)), (ka, .inl (ty.1, 2000, .inl aF)), (kb, .inl (ty.1, 2000, .inl bF))]) rfl rfl rfl (Nat.le_of_ble_eq_true rfl) dX1_putEntry_52 ⟨Nat.le_of_ble_eq_true rfl, Nat.le_of_ble_eq_true rfl⟩ rfl (g_kuv (fun w hr => ?_))
          subst hr
          refine g_ws (ws' := [(p0, .inr (0, [.int (nI (nv + (nmL v).length)), .ref py])), (py, .inl (ty.1, 30, .inl (zN (apL pb nv (nmL v))))), (k0, .inr (1, [.int (nI es.length), .ref kf, .ref ko, .ref ka, .ref kb, .ref kt, .ref kl, .ref kp])), (ko, .inl (ty.1, 2000, .inl oF)), (ka, .inl (ty.1, 2000, .inl aF)), (kb, .inl (ty.1, 2000, .inl bF))]) [4, 5, 0, 1, 2, 3] rfl rfl rfl ?_
          refine g_goto C dX1_putEntry_55 (tgt := 139) (by decide) ?_
          refine hR _ _ _ _ _ dX1_putEntry_139 ?_ (by omega) (by omega)
          first
          | (rw [hL, e2, apL_app]; rfl)
          | (rw [hL, show nv + (sgn o :: agE es n a).length = nv + 1 + (agE es n a).length from by simp; omega]; rfl)
          | (rw [hL] <;> rfl)
      · skip
        have hL := fm_x (n := n) (t_eq.mpr h26)
        rw [hL] at hbl
        have hbl2 : nv + 1 ≤ 30 := hbl
        refine g_aload_n C dX1_putEntry_29 1 rfl rfl ?_
        refine g_bipush C dX1_putEntry_30 (v := (nI 120)) (by decide) ?_
        refine g_callUV C ⟨g_X0_ok, trivial⟩ (t_X1_put l D ty p0 py pb nv 120 (by omega)) rfl gX1_putEntry_X1_put 1 (by decide +kernel) rfl ⟨rfl, rfl⟩ ⟨Nat.le_of_ble_eq_true rfl, Nat.le_of_ble_eq_true rfl⟩ (rest := []) (q0 := 0) rfl rfl hA [0, 1] [2, 3, 4, 5] rfl rfl rfl (wr := [(k0, .inr (1, [.int (nI es.length), .ref kf, .ref ko, .ref ka, .ref kb, .ref kt, .ref kl, .ref kp])), (ko, .inl (ty.1, 2000, .inl oF)), (ka, .inl (ty.1, 2000, .inl aF)), (kb, .inl (ty.1, 2000, .inl bF))]) rfl rfl rfl (Nat.le_of_ble_eq_true rfl) dX1_putEntry_32 ⟨Nat.le_of_ble_eq_true rfl, Nat.le_of_ble_eq_true rfl⟩ rfl (g_kuv (fun w hr => ?_))
        subst hr
        refine g_ws (ws' := [(p0, .inr (0, [.int (nI (nv + 1)), .ref py])), (py, .inl (ty.1, 30, .inl (zN (va_up pb nv 120)))), (k0, .inr (1, [.int (nI es.length), .ref kf, .ref ko, .ref ka, .ref kb, .ref kt, .ref kl, .ref kp])), (ko, .inl (ty.1, 2000, .inl oF)), (ka, .inl (ty.1, 2000, .inl aF)), (kb, .inl (ty.1, 2000, .inl bF))]) [4, 5, 0, 1, 2, 3] rfl rfl rfl ?_
        refine g_goto C dX1_putEntry_35 (tgt := 139) (by decide) ?_
        refine hR _ _ _ _ _ dX1_putEntry_139 ?_ (by omega) (by omega)
        first
        | (rw [hL, e2, apL_app]; rfl)
        | (rw [hL, show nv + (sgn o :: agE es n a).length = nv + 1 + (agE es n a).length from by simp; omega]; rfl)
        | (rw [hL] <;> rfl)
    · skip
      exact absurd h11 (by omega)


set_option maxHeartbeats 4000000 in
set_option maxRecDepth 100000 in
theorem t_X1_putArgument (l : Launch) (D : va_G) (ty : g_T3) (p0 py : Nat) (k0 kf ko ka kb kt kl kp : Nat) (es : List Ent) (oF aF bF : Nat → Int32) (hr0 : ∀ i, i < es.length → oF i = eO es i ∧ aF i = eA es i ∧ bF i = eB es i) (hwf : wfE es) (hl0 : es.length ≤ 2000) (n : Nat) (hE1 : ∀ (pb : Nat → Nat) (nv dv x : Nat), x < es.length → eC es x < n → nv + (fmE es n x).length ≤ 30 → dv + n ≤ 7 → g_U l yX1_putEntry wsX1_putEntry ({ frames := 3 * n + 10, cells := 0, slots := 0, locals := 100 * n + 200 } : Room) D ty g_XN [.ref p0, .ref k0, .int (nI x), .int (nI dv)] [(p0, .inr (0, [.int (nI nv), .ref py])), (py, .inl (ty.1, 30, .inl (zN pb))), (k0, .inr (1, [.int (nI es.length), .ref kf, .ref ko, .ref ka, .ref kb, .ref kt, .ref kl, .ref kp])), (ko, .inl (ty.1, 2000, .inl oF)), (ka, .inl (ty.1, 2000, .inl aF)), (kb, .inl (ty.1, 2000, .inl bF))] 0 0 (g_uv (fun w => w = [(p0, .inr (0, [.int (nI (nv + (fmE es n x).length)), .ref py])), (py, .inl (ty.1, 30, .inl (zN (apL pb nv (fmE es n x))))), (k0, .inr (1, [.int (nI es.length), .ref kf, .ref ko, .ref ka, .ref kb, .ref kt, .ref kl, .ref kp])), (ko, .inl (ty.1, 2000, .inl oF)), (ka, .inl (ty.1, 2000, .inl aF)), (kb, .inl (ty.1, 2000, .inl bF))]))) (pb : Nat → Nat) (nv dv x : Nat) (hi : x < es.length) (hci : eC es x < n) (hbl : nv + (agE es n x).length ≤ 30) (hdv : dv + n ≤ 7) : g_U l yX1_putArgument wsX1_putArgument ({ frames := 3 * n + 11, cells := 0, slots := 0, locals := 100 * n + 260 } : Room) D ty g_XN [.ref p0, .ref k0, .int (nI x), .int (nI dv)] [(p0, .inr (0, [.int (nI nv), .ref py])), (py, .inl (ty.1, 30, .inl (zN pb))), (k0, .inr (1, [.int (nI es.length), .ref kf, .ref ko, .ref ka, .ref kb, .ref kt, .ref kl, .ref kp])), (ko, .inl (ty.1, 2000, .inl oF)), (ka, .inl (ty.1, 2000, .inl aF)), (kb, .inl (ty.1, 2000, .inl bF))] 0 0 (g_uv (fun w => w = [(p0, .inr (0, [.int (nI (nv + (agE es n x).length)), .ref py])), (py, .inl (ty.1, 30, .inl (zN (apL pb nv (agE es n x))))), (k0, .inr (1, [.int (nI es.length), .ref kf, .ref ko, .ref ka, .ref kb, .ref kt, .ref kl, .ref kp])), (ko, .inl (ty.1, 2000, .inl oF)), (ka, .inl (ty.1, 2000, .inl aF)), (kb, .inl (ty.1, 2000, .inl bF))])) := by
  refine g_ofUv (cc := cX1_putArgument) (nL := 5) (own := RX1) (by decide) rfl rfl g_XN_ok (Nat.le_of_ble_eq_true rfl) ?_
  intro p e s m args below meth c Q A C hA hX hin hR
  refine g_lv (lv' := [(0, .ref p0), (1, .ref k0), (2, .int (nI x)), (3, .int (nI dv))]) [0, 1, 2, 3] rfl ?_
  refine g_aload_n C dX1_putArgument_0 1 rfl rfl ?_
  refine g_iload_n C dX1_putArgument_1 2 rfl rfl ?_
  refine g_callPV C ⟨g_X0_ok, trivial⟩ (t_X2_has l D ty k0 kf ko ka kb kt kl kp es.length (by omega) (nI x)) rfl gX1_putArgument_X2_has 1 (by decide +kernel) rfl ⟨rfl, rfl⟩ ⟨Nat.le_of_ble_eq_true rfl, Nat.le_of_ble_eq_true rfl⟩ (rest := []) (q0 := 2) rfl rfl [2] rfl (Nat.le_of_ble_eq_true rfl) dX1_putArgument_2 ⟨Nat.le_of_ble_eq_true rfl, Nat.le_of_ble_eq_true rfl⟩ rfl (g_ki (fun r hr => ?_))
  subst hr
  have := bt_lt (hsB (nI x) es.length)
  refine g_if_eqN C dX1_putArgument_5 (tgt := 24) (by decide) (by omega) (fun h5 => ?_) (fun h5 => ?_)
  · skip
    rw [hs_nI hi (by omega)] at h5
    exact absurd h5 (by decide)
  · skip
    refine g_aload_n C dX1_putArgument_8 1 rfl rfl ?_
    refine g_get C 2 rfl rfl 2 (by decide) (fun _ h => (List.mem_cons_of_mem _ (List.mem_append_left _ (List.mem_append_right _ h)))) 1 rfl rfl rfl dX1_putArgument_9 ?_
    refine g_iload_n C dX1_putArgument_12 2 rfl rfl ?_
    refine g_iald C (v := (eO es x)) 3 rfl (by omega) (by omega) (hr0 x hi).1 dX1_putArgument_13 ?_
    refine g_callPSN C ⟨g_X0_ok, trivial⟩ (t_X5_hasTwoArguments l D ty (eO es x)) rfl (hX.2.1 7 (by decide)) ggX1_putArgument_X5_hasTwoArguments 9 8 rfl rfl 1 (by decide +kernel) rfl ⟨rfl, rfl⟩ ⟨Nat.le_of_ble_eq_true rfl, Nat.le_of_ble_eq_true rfl⟩ (rest := []) [] rfl (Nat.le_of_ble_eq_true rfl) dX1_putArgument_14 ⟨Nat.le_of_ble_eq_true rfl, Nat.le_of_ble_eq_true rfl⟩ rfl (g_ki (fun r hr => ?_))
    subst hr
    have := bt_lt (inB (eO es x) (nI 4) (nI 9))
    refine g_if_eqN C dX1_putArgument_17 (tgt := 24) (by decide) (by omega) (fun h17 => ?_) (fun h17 => ?_)
    · skip
      have h17b := in_0 h17
      have c4 := nI_toInt (n := 4) (by decide)
      have c9 := nI_toInt (n := 9) (by decide)
      have c0 := nI_toInt (n := 0) (by decide)
      have hT2 : isTwo es x = false := by
        refine two_f ?_
        rcases (hwf x hi).2 with ⟨z, -⟩ | ⟨z, -⟩ | ⟨o, a, z1, z2, -⟩ | ⟨o, a, b, z1, z2, z3, -⟩
        · rw [z]; decide
        · rw [z]; decide
        · rw [z2, nI_toInt (by omega)]; omega
        · have zz := nI_toInt (n := o) (by omega); rw [z3] at h17b; omega
      refine g_iconst C dX1_putArgument_24 (v := (nI ((isTwo es x).toNat))) (by rw [hT2]; rfl) ?_
      have L25 : ∀ (n9 : Nat) , 0 < n9 → gG (g_IU A D s) p l e ({ frames := 3 * n + 11, cells := 0, slots := 0, locals := 100 * n + 260 } : Room) s m args below meth c Q 5 0 0 25 [(0, .ref p0), (1, .ref k0), (2, .int (nI x)), (3, .int (nI dv))] [.int (nI ((isTwo es x).toNat))] [(p0, .inr (0, [.int (nI nv), .ref py])), (py, .inl (ty.1, 30, .inl (zN pb))), (k0, .inr (1, [.int (nI es.length), .ref kf, .ref ko, .ref ka, .ref kb, .ref kt, .ref kl, .ref kp])), (ko, .inl (ty.1, 2000, .inl oF)), (ka, .inl (ty.1, 2000, .inl aF)), (kb, .inl (ty.1, 2000, .inl bF))] := by
        intro n9
        induction n9 with
        | zero => intro  hn; exact absurd hn (Nat.not_lt_zero _)
        | succ n9 ih25 =>
          intro  hn25 
          refine g_istore C dX1_putArgument_25 (by decide) (lv' := [(4, .int (nI ((isTwo es x).toNat))), (0, .ref p0), (1, .ref k0), (2, .int (nI x)), (3, .int (nI dv))]) rfl ?_
          have hbt := bt_lt (isTwo es x)
          have hb0 : 0 < (agE es n x).length + 1 := Nat.succ_pos _
          refine g_iload C dX1_putArgument_27 0 rfl ?_
          refine g_if_eqN C dX1_putArgument_29 (tgt := 38) (by decide) (by omega) (fun h29 => ?_) (fun h29 => ?_)
          · skip
            have L38 : ∀ (n9 : Nat) (pb2 : Nat → Nat) (n2 : Nat), 0 < n9 → (((isTwo es x).toNat = 0 ∧ n2 = nv ∧ pb2 = pb) ∨ (¬ (isTwo es x).toNat = 0 ∧ n2 = nv + 1 ∧ pb2 = va_up pb nv 40)) → gG (g_IU A D s) p l e ({ frames := 3 * n + 11, cells := 0, slots := 0, locals := 100 * n + 260 } : Room) s m args below meth c Q 5 0 0 38 [(4, .int (nI ((isTwo es x).toNat))), (0, .ref p0), (1, .ref k0), (2, .int (nI x)), (3, .int (nI dv))] [] [(p0, .inr (0, [.int (nI n2), .ref py])), (py, .inl (ty.1, 30, .inl (zN pb2))), (k0, .inr (1, [.int (nI es.length), .ref kf, .ref ko, .ref ka, .ref kb, .ref kt, .ref kl, .ref kp])), (ko, .inl (ty.1, 2000, .inl oF)), (ka, .inl (ty.1, 2000, .inl aF)), (kb, .inl (ty.1, 2000, .inl bF))] := by
              intro n9
              induction n9 with
              | zero => intro pb2 n2 hn; exact absurd hn (Nat.not_lt_zero _)
              | succ n9 ih38 =>
                intro pb2 n2 hn38 h38a
                have hlen : n2 + (fmE es n x).length + (isTwo es x).toNat ≤ 30 := by
                  rcases h38a with ⟨z1, z2, z3⟩ | ⟨z1, z2, z3⟩
                  · have hL : agE es n x = fmE es n x := if_neg (b_f z1)
                    rw [hL] at hbl; omega
                  · have hL : agE es n x = 40 :: fmE es n x ++ [41] := if_pos (b_t z1)
                    have hbt := bt_lt (isTwo es x)
                    rw [hL] at hbl; simp at hbl; omega
                refine g_aload_n C dX1_putArgument_38 1 rfl rfl ?_
                refine g_aload_n C dX1_putArgument_39 2 rfl rfl ?_
                refine g_iload_n C dX1_putArgument_40 3 rfl rfl ?_
                refine g_iload_n C dX1_putArgument_41 4 rfl rfl ?_
                refine g_callUV C hX (hE1 pb2 n2 dv x (by omega) (by omega) (by omega) (by omega)) rfl gX1_putArgument_X1_putEntry 3 (by decide +kernel) rfl ⟨rfl, rfl⟩ ⟨by show _ ≤ _; simp only []; omega, by show _ ≤ _; simp only []; omega⟩ (rest := []) (q0 := 0) rfl rfl hA [0, 1, 2, 3, 4, 5] [] rfl rfl rfl (wr := []) rfl rfl rfl (Nat.le_of_ble_eq_true rfl) dX1_putArgument_42 ⟨Nat.le_of_ble_eq_true rfl, Nat.le_of_ble_eq_true rfl⟩ rfl (g_kuv (fun w hr => ?_))
                subst hr
                refine g_ws (ws' := [(p0, .inr (0, [.int (nI (n2 + (fmE es n x).length)), .ref py])), (py, .inl (ty.1, 30, .inl (zN (apL pb2 n2 (fmE es n x))))), (k0, .inr (1, [.int (nI es.length), .ref kf, .ref ko, .ref ka, .ref kb, .ref kt, .ref kl, .ref kp])), (ko, .inl (ty.1, 2000, .inl oF)), (ka, .inl (ty.1, 2000, .inl aF)), (kb, .inl (ty.1, 2000, .inl bF))]) [0, 1, 2, 3, 4, 5] rfl rfl rfl ?_
                refine g_iload C dX1_putArgument_45 0 rfl ?_
                have hbt9 := bt_lt (isTwo es x)
                refine g_if_eqN C dX1_putArgument_47 (tgt := 56) (by decide) (by omega) (fun h47 => ?_) (fun h47 => ?_)
                · skip
                  have e3 : nv + (40 :: fmE es n x ++ [41]).length = nv + 1 + (fmE es n x).length + 1 := by simp; omega
                  refine hR _ _ _ _ _ dX1_putArgument_56 ?_ (by omega) (by omega)
                  rcases h38a with ⟨z1, z2, z3⟩ | ⟨z1, z2, z3⟩
                  · first
                    | exact absurd z1 h47
                    | (rw [show agE es n x = fmE es n x from if_neg (b_f z1), z2, z3])
                  · first
                    | exact absurd h47 z1
                    | (rw [show agE es n x = 40 :: fmE es n x ++ [41] from if_pos (b_t z1), z2, z3, e3]; rw [show apL pb nv (40 :: fmE es n x ++ [41]) = apL (va_up pb nv 40) (nv + 1) (fmE es n x ++ [41]) from rfl, apL_app]; rfl)
                · skip
                  refine g_aload_n C dX1_putArgument_50 1 rfl rfl ?_
                  refine g_bipush C dX1_putArgument_51 (v := (nI 41)) (by decide) ?_
                  refine g_callUV C ⟨g_X0_ok, trivial⟩ (t_X1_put l D ty p0 py (apL pb2 n2 (fmE es n x)) (n2 + (fmE es n x).length) 41 (by omega)) rfl gX1_putArgument_X1_put 1 (by decide +kernel) rfl ⟨rfl, rfl⟩ ⟨Nat.le_of_ble_eq_true rfl, Nat.le_of_ble_eq_true rfl⟩ (rest := []) (q0 := 0) rfl rfl hA [0, 1] [2, 3, 4, 5] rfl rfl rfl (wr := [(k0, .inr (1, [.int (nI es.length), .ref kf, .ref ko, .ref ka, .ref kb, .ref kt, .ref kl, .ref kp])), (ko, .inl (ty.1, 2000, .inl oF)), (ka, .inl (ty.1, 2000, .inl aF)), (kb, .inl (ty.1, 2000, .inl bF))]) rfl rfl rfl (Nat.le_of_ble_eq_true rfl) dX1_putArgument_53 ⟨Nat.le_of_ble_eq_true rfl, Nat.le_of_ble_eq_true rfl⟩ rfl (g_kuv (fun w hr => ?_))
                  subst hr
                  refine g_ws (ws' := [(p0, .inr (0, [.int (nI ((n2 + (fmE es n x).length) + 1)), .ref py])), (py, .inl (ty.1, 30, .inl (zN (va_up (apL pb2 n2 (fmE es n x)) (n2 + (fmE es n x).length) 41)))), (k0, .inr (1, [.int (nI es.length), .ref kf, .ref ko, .ref ka, .ref kb, .ref kt, .ref kl, .ref kp])), (ko, .inl (ty.1, 2000, .inl oF)), (ka, .inl (ty.1, 2000, .inl aF)), (kb, .inl (ty.1, 2000, .inl bF))]) [4, 5, 0, 1, 2, 3] rfl rfl rfl ?_
                  have e3 : nv + (40 :: fmE es n x ++ [41]).length = nv + 1 + (fmE es n x).length + 1 := by simp; omega
                  refine hR _ _ _ _ _ dX1_putArgument_56 ?_ (by omega) (by omega)
                  rcases h38a with ⟨z1, z2, z3⟩ | ⟨z1, z2, z3⟩
                  · first
                    | exact absurd z1 h47
                    | (rw [show agE es n x = fmE es n x from if_neg (b_f z1), z2, z3])
                  · first
                    | exact absurd h47 z1
                    | (rw [show agE es n x = 40 :: fmE es n x ++ [41] from if_pos (b_t z1), z2, z3, e3]; rw [show apL pb nv (40 :: fmE es n x ++ [41]) = apL (va_up pb nv 40) (nv + 1) (fmE es n x ++ [41]) from rfl, apL_app]; rfl)
            exact L38 _ pb nv (Nat.lt_succ_self _) (by first | exact Or.inl ⟨h29, rfl, rfl⟩ | exact Or.inr ⟨h29, rfl, rfl⟩)
          · skip
            have hlt : nv < 30 := by
              have hL : agE es n x = 40 :: fmE es n x ++ [41] := if_pos (b_t h29)
              rw [hL] at hbl; simp at hbl; omega
            refine g_aload_n C dX1_putArgument_32 1 rfl rfl ?_
            refine g_bipush C dX1_putArgument_33 (v := (nI 40)) (by decide) ?_
            refine g_callUV C ⟨g_X0_ok, trivial⟩ (t_X1_put l D ty p0 py pb nv 40 (by omega)) rfl gX1_putArgument_X1_put 1 (by decide +kernel) rfl ⟨rfl, rfl⟩ ⟨Nat.le_of_ble_eq_true rfl, Nat.le_of_ble_eq_true rfl⟩ (rest := []) (q0 := 0) rfl rfl hA [0, 1] [2, 3, 4, 5] rfl rfl rfl (wr := [(k0, .inr (1, [.int (nI es.length), .ref kf, .ref ko, .ref ka, .ref kb, .ref kt, .ref kl, .ref kp])), (ko, .inl (ty.1, 2000, .inl oF)), (ka, .inl (ty.1, 2000, .inl aF)), (kb, .inl (ty.1, 2000, .inl bF))]) rfl rfl rfl (Nat.le_of_ble_eq_true rfl) dX1_putArgument_35 ⟨Nat.le_of_ble_eq_true rfl, Nat.le_of_ble_eq_true rfl⟩ rfl (g_kuv (fun w hr => ?_))
            subst hr
            refine g_ws (ws' := [(p0, .inr (0, [.int (nI (nv + 1)), .ref py])), (py, .inl (ty.1, 30, .inl (zN (va_up pb nv 40)))), (k0, .inr (1, [.int (nI es.length), .ref kf, .ref ko, .ref ka, .ref kb, .ref kt, .ref kl, .ref kp])), (ko, .inl (ty.1, 2000, .inl oF)), (ka, .inl (ty.1, 2000, .inl aF)), (kb, .inl (ty.1, 2000, .inl bF))]) [4, 5, 0, 1, 2, 3] rfl rfl rfl ?_
            have L38 : ∀ (n9 : Nat) (pb2 : Nat → Nat) (n2 : Nat), 0 < n9 → (((isTwo es x).toNat = 0 ∧ n2 = nv ∧ pb2 = pb) ∨ (¬ (isTwo es x).toNat = 0 ∧ n2 = nv + 1 ∧ pb2 = va_up pb nv 40)) → gG (g_IU A D s) p l e ({ frames := 3 * n + 11, cells := 0, slots := 0, locals := 100 * n + 260 } : Room) s m args below meth c Q 5 0 0 38 [(4, .int (nI ((isTwo es x).toNat))), (0, .ref p0), (1, .ref k0), (2, .int (nI x)), (3, .int (nI dv))] [] [(p0, .inr (0, [.int (nI n2), .ref py])), (py, .inl (ty.1, 30, .inl (zN pb2))), (k0, .inr (1, [.int (nI es.length), .ref kf, .ref ko, .ref ka, .ref kb, .ref kt, .ref kl, .ref kp])), (ko, .inl (ty.1, 2000, .inl oF)), (ka, .inl (ty.1, 2000, .inl aF)), (kb, .inl (ty.1, 2000, .inl bF))] := by
              intro n9
              induction n9 with
              | zero => intro pb2 n2 hn; exact absurd hn (Nat.not_lt_zero _)
              | succ n9 ih38 =>
                intro pb2 n2 hn38 h38a
                have hlen : n2 + (fmE es n x).length + (isTwo es x).toNat ≤ 30 := by
                  rcases h38a with ⟨z1, z2, z3⟩ | ⟨z1, z2, z3⟩
                  · have hL : agE es n x = fmE es n x := if_neg (b_f z1)
                    rw [hL] at hbl; omega
                  · have hL : agE es n x = 40 :: fmE es n x ++ [41] := if_pos (b_t z1)
                    have hbt := bt_lt (isTwo es x)
                    rw [hL] at hbl; simp at hbl; omega
                refine g_aload_n C dX1_putArgument_38 1 rfl rfl ?_
                refine g_aload_n C dX1_putArgument_39 2 rfl rfl ?_
                refine g_iload_n C dX1_putArgument_40 3 rfl rfl ?_
                refine g_iload_n C dX1_putArgument_41 4 rfl rfl ?_
                refine g_callUV C hX (hE1 pb2 n2 dv x (by omega) (by omega) (by omega) (by omega)) rfl gX1_putArgument_X1_putEntry 3 (by decide +kernel) rfl ⟨rfl, rfl⟩ ⟨by show _ ≤ _; simp only []; omega, by show _ ≤ _; simp only []; omega⟩ (rest := []) (q0 := 0) rfl rfl hA [0, 1, 2, 3, 4, 5] [] rfl rfl rfl (wr := []) rfl rfl rfl (Nat.le_of_ble_eq_true rfl) dX1_putArgument_42 ⟨Nat.le_of_ble_eq_true rfl, Nat.le_of_ble_eq_true rfl⟩ rfl (g_kuv (fun w hr => ?_))
                subst hr
                refine g_ws (ws' := [(p0, .inr (0, [.int (nI (n2 + (fmE es n x).length)), .ref py])), (py, .inl (ty.1, 30, .inl (zN (apL pb2 n2 (fmE es n x))))), (k0, .inr (1, [.int (nI es.length), .ref kf, .ref ko, .ref ka, .ref kb, .ref kt, .ref kl, .ref kp])), (ko, .inl (ty.1, 2000, .inl oF)), (ka, .inl (ty.1, 2000, .inl aF)), (kb, .inl (ty.1, 2000, .inl bF))]) [0, 1, 2, 3, 4, 5] rfl rfl rfl ?_
                refine g_iload C dX1_putArgument_45 0 rfl ?_
                have hbt9 := bt_lt (isTwo es x)
                refine g_if_eqN C dX1_putArgument_47 (tgt := 56) (by decide) (by omega) (fun h47 => ?_) (fun h47 => ?_)
                · skip
                  have e3 : nv + (40 :: fmE es n x ++ [41]).length = nv + 1 + (fmE es n x).length + 1 := by simp; omega
                  refine hR _ _ _ _ _ dX1_putArgument_56 ?_ (by omega) (by omega)
                  rcases h38a with ⟨z1, z2, z3⟩ | ⟨z1, z2, z3⟩
                  · first
                    | exact absurd z1 h47
                    | (rw [show agE es n x = fmE es n x from if_neg (b_f z1), z2, z3])
                  · first
                    | exact absurd h47 z1
                    | (rw [show agE es n x = 40 :: fmE es n x ++ [41] from if_pos (b_t z1), z2, z3, e3]; rw [show apL pb nv (40 :: fmE es n x ++ [41]) = apL (va_up pb nv 40) (nv + 1) (fmE es n x ++ [41]) from rfl, apL_app]; rfl)
                · skip
                  refine g_aload_n C dX1_putArgument_50 1 rfl rfl ?_
                  refine g_bipush C dX1_putArgument_51 (v := (nI 41)) (by decide) ?_
                  refine g_callUV C ⟨g_X0_ok, trivial⟩ (t_X1_put l D ty p0 py (apL pb2 n2 (fmE es n x)) (n2 + (fmE es n x).length) 41 (by omega)) rfl gX1_putArgument_X1_put 1 (by decide +kernel) rfl ⟨rfl, rfl⟩ ⟨Nat.le_of_ble_eq_true rfl, Nat.le_of_ble_eq_true rfl⟩ (rest := []) (q0 := 0) rfl rfl hA [0, 1] [2, 3, 4, 5] rfl rfl rfl (wr := [(k0, .inr (1, [.int (nI es.length), .ref kf, .ref ko, .ref ka, .ref kb, .ref kt, .ref kl, .ref kp])), (ko, .inl (ty.1, 2000, .inl oF)), (ka, .inl (ty.1, 2000, .inl aF)), (kb, .inl (ty.1, 2000, .inl bF))]) rfl rfl rfl (Nat.le_of_ble_eq_true rfl) dX1_putArgument_53 ⟨Nat.le_of_ble_eq_true rfl, Nat.le_of_ble_eq_true rfl⟩ rfl (g_kuv (fun w hr => ?_))
                  subst hr
                  refine g_ws (ws' := [(p0, .inr (0, [.int (nI ((n2 + (fmE es n x).length) + 1)), .ref py])), (py, .inl (ty.1, 30, .inl (zN (va_up (apL pb2 n2 (fmE es n x)) (n2 + (fmE es n x).length) 41)))), (k0, .inr (1, [.int (nI es.length), .ref kf, .ref ko, .ref ka, .ref kb, .ref kt, .ref kl, .ref kp])), (ko, .inl (ty.1, 2000, .inl oF)), (ka, .inl (ty.1, 2000, .inl aF)), (kb, .inl (ty.1, 2000, .inl bF))]) [4, 5, 0, 1, 2, 3] rfl rfl rfl ?_
                  have e3 : nv + (40 :: fmE es n x ++ [41]).length = nv + 1 + (fmE es n x).length + 1 := by simp; omega
                  refine hR _ _ _ _ _ dX1_putArgument_56 ?_ (by omega) (by omega)
                  rcases h38a with ⟨z1, z2, z3⟩ | ⟨z1, z2, z3⟩
                  · first
                    | exact absurd z1 h47
                    | (rw [show agE es n x = fmE es n x from if_neg (b_f z1), z2, z3])
                  · first
                    | exact absurd h47 z1
                    | (rw [show agE es n x = 40 :: fmE es n x ++ [41] from if_pos (b_t z1), z2, z3, e3]; rw [show apL pb nv (40 :: fmE es n x ++ [41]) = apL (va_up pb nv 40) (nv + 1) (fmE es n x ++ [41]) from rfl, apL_app]; rfl)
            exact L38 _ (va_up pb nv 40) (nv + 1) (Nat.lt_succ_self _) (by first | exact Or.inl ⟨h29, rfl, rfl⟩ | exact Or.inr ⟨h29, rfl, rfl⟩)
      exact L25 _  (Nat.lt_succ_self _) 
    · skip
      have h17b := in_1 h17
      have c4 := nI_toInt (n := 4) (by decide)
      have c9 := nI_toInt (n := 9) (by decide)
      have c0 := nI_toInt (n := 0) (by decide)
      have hT2 : isTwo es x = true := decide_eq_true (by omega)
      refine g_iconst C dX1_putArgument_20 (v := (nI ((isTwo es x).toNat))) (by rw [hT2]; rfl) ?_
      refine g_goto C dX1_putArgument_21 (tgt := 25) (by decide) ?_
      have L25 : ∀ (n9 : Nat) , 0 < n9 → gG (g_IU A D s) p l e ({ frames := 3 * n + 11, cells := 0, slots := 0, locals := 100 * n + 260 } : Room) s m args below meth c Q 5 0 0 25 [(0, .ref p0), (1, .ref k0), (2, .int (nI x)), (3, .int (nI dv))] [.int (nI ((isTwo es x).toNat))] [(p0, .inr (0, [.int (nI nv), .ref py])), (py, .inl (ty.1, 30, .inl (zN pb))), (k0, .inr (1, [.int (nI es.length), .ref kf, .ref ko, .ref ka, .ref kb, .ref kt, .ref kl, .ref kp])), (ko, .inl (ty.1, 2000, .inl oF)), (ka, .inl (ty.1, 2000, .inl aF)), (kb, .inl (ty.1, 2000, .inl bF))] := by
        intro n9
        induction n9 with
        | zero => intro  hn; exact absurd hn (Nat.not_lt_zero _)
        | succ n9 ih25 =>
          intro  hn25 
          refine g_istore C dX1_putArgument_25 (by decide) (lv' := [(4, .int (nI ((isTwo es x).toNat))), (0, .ref p0), (1, .ref k0), (2, .int (nI x)), (3, .int (nI dv))]) rfl ?_
          have hbt := bt_lt (isTwo es x)
          have hb0 : 0 < (agE es n x).length + 1 := Nat.succ_pos _
          refine g_iload C dX1_putArgument_27 0 rfl ?_
          refine g_if_eqN C dX1_putArgument_29 (tgt := 38) (by decide) (by omega) (fun h29 => ?_) (fun h29 => ?_)
          · skip
            have L38 : ∀ (n9 : Nat) (pb2 : Nat → Nat) (n2 : Nat), 0 < n9 → (((isTwo es x).toNat = 0 ∧ n2 = nv ∧ pb2 = pb) ∨ (¬ (isTwo es x).toNat = 0 ∧ n2 = nv + 1 ∧ pb2 = va_up pb nv 40)) → gG (g_IU A D s) p l e ({ frames := 3 * n + 11, cells := 0, slots := 0, locals := 100 * n + 260 } : Room) s m args below meth c Q 5 0 0 38 [(4, .int (nI ((isTwo es x).toNat))), (0, .ref p0), (1, .ref k0), (2, .int (nI x)), (3, .int (nI dv))] [] [(p0, .inr (0, [.int (nI n2), .ref py])), (py, .inl (ty.1, 30, .inl (zN pb2))), (k0, .inr (1, [.int (nI es.length), .ref kf, .ref ko, .ref ka, .ref kb, .ref kt, .ref kl, .ref kp])), (ko, .inl (ty.1, 2000, .inl oF)), (ka, .inl (ty.1, 2000, .inl aF)), (kb, .inl (ty.1, 2000, .inl bF))] := by
              intro n9
              induction n9 with
              | zero => intro pb2 n2 hn; exact absurd hn (Nat.not_lt_zero _)
              | succ n9 ih38 =>
                intro pb2 n2 hn38 h38a
                have hlen : n2 + (fmE es n x).length + (isTwo es x).toNat ≤ 30 := by
                  rcases h38a with ⟨z1, z2, z3⟩ | ⟨z1, z2, z3⟩
                  · have hL : agE es n x = fmE es n x := if_neg (b_f z1)
                    rw [hL] at hbl; omega
                  · have hL : agE es n x = 40 :: fmE es n x ++ [41] := if_pos (b_t z1)
                    have hbt := bt_lt (isTwo es x)
                    rw [hL] at hbl; simp at hbl; omega
                refine g_aload_n C dX1_putArgument_38 1 rfl rfl ?_
                refine g_aload_n C dX1_putArgument_39 2 rfl rfl ?_
                refine g_iload_n C dX1_putArgument_40 3 rfl rfl ?_
                refine g_iload_n C dX1_putArgument_41 4 rfl rfl ?_
                refine g_callUV C hX (hE1 pb2 n2 dv x (by omega) (by omega) (by omega) (by omega)) rfl gX1_putArgument_X1_putEntry 3 (by decide +kernel) rfl ⟨rfl, rfl⟩ ⟨by show _ ≤ _; simp only []; omega, by show _ ≤ _; simp only []; omega⟩ (rest := []) (q0 := 0) rfl rfl hA [0, 1, 2, 3, 4, 5] [] rfl rfl rfl (wr := []) rfl rfl rfl (Nat.le_of_ble_eq_true rfl) dX1_putArgument_42 ⟨Nat.le_of_ble_eq_true rfl, Nat.le_of_ble_eq_true rfl⟩ rfl (g_kuv (fun w hr => ?_))
                subst hr
                refine g_ws (ws' := [(p0, .inr (0, [.int (nI (n2 + (fmE es n x).length)), .ref py])), (py, .inl (ty.1, 30, .inl (zN (apL pb2 n2 (fmE es n x))))), (k0, .inr (1, [.int (nI es.length), .ref kf, .ref ko, .ref ka, .ref kb, .ref kt, .ref kl, .ref kp])), (ko, .inl (ty.1, 2000, .inl oF)), (ka, .inl (ty.1, 2000, .inl aF)), (kb, .inl (ty.1, 2000, .inl bF))]) [0, 1, 2, 3, 4, 5] rfl rfl rfl ?_
                refine g_iload C dX1_putArgument_45 0 rfl ?_
                have hbt9 := bt_lt (isTwo es x)
                refine g_if_eqN C dX1_putArgument_47 (tgt := 56) (by decide) (by omega) (fun h47 => ?_) (fun h47 => ?_)
                · skip
                  have e3 : nv + (40 :: fmE es n x ++ [41]).length = nv + 1 + (fmE es n x).length + 1 := by simp; omega
                  refine hR _ _ _ _ _ dX1_putArgument_56 ?_ (by omega) (by omega)
                  rcases h38a with ⟨z1, z2, z3⟩ | ⟨z1, z2, z3⟩
                  · first
                    | exact absurd z1 h47
                    | (rw [show agE es n x = fmE es n x from if_neg (b_f z1), z2, z3])
                  · first
                    | exact absurd h47 z1
                    | (rw [show agE es n x = 40 :: fmE es n x ++ [41] from if_pos (b_t z1), z2, z3, e3]; rw [show apL pb nv (40 :: fmE es n x ++ [41]) = apL (va_up pb nv 40) (nv + 1) (fmE es n x ++ [41]) from rfl, apL_app]; rfl)
                · skip
                  refine g_aload_n C dX1_putArgument_50 1 rfl rfl ?_
                  refine g_bipush C dX1_putArgument_51 (v := (nI 41)) (by decide) ?_
                  refine g_callUV C ⟨g_X0_ok, trivial⟩ (t_X1_put l D ty p0 py (apL pb2 n2 (fmE es n x)) (n2 + (fmE es n x).length) 41 (by omega)) rfl gX1_putArgument_X1_put 1 (by decide +kernel) rfl ⟨rfl, rfl⟩ ⟨Nat.le_of_ble_eq_true rfl, Nat.le_of_ble_eq_true rfl⟩ (rest := []) (q0 := 0) rfl rfl hA [0, 1] [2, 3, 4, 5] rfl rfl rfl (wr := [(k0, .inr (1, [.int (nI es.length), .ref kf, .ref ko, .ref ka, .ref kb, .ref kt, .ref kl, .ref kp])), (ko, .inl (ty.1, 2000, .inl oF)), (ka, .inl (ty.1, 2000, .inl aF)), (kb, .inl (ty.1, 2000, .inl bF))]) rfl rfl rfl (Nat.le_of_ble_eq_true rfl) dX1_putArgument_53 ⟨Nat.le_of_ble_eq_true rfl, Nat.le_of_ble_eq_true rfl⟩ rfl (g_kuv (fun w hr => ?_))
                  subst hr
                  refine g_ws (ws' := [(p0, .inr (0, [.int (nI ((n2 + (fmE es n x).length) + 1)), .ref py])), (py, .inl (ty.1, 30, .inl (zN (va_up (apL pb2 n2 (fmE es n x)) (n2 + (fmE es n x).length) 41)))), (k0, .inr (1, [.int (nI es.length), .ref kf, .ref ko, .ref ka, .ref kb, .ref kt, .ref kl, .ref kp])), (ko, .inl (ty.1, 2000, .inl oF)), (ka, .inl (ty.1, 2000, .inl aF)), (kb, .inl (ty.1, 2000, .inl bF))]) [4, 5, 0, 1, 2, 3] rfl rfl rfl ?_
                  have e3 : nv + (40 :: fmE es n x ++ [41]).length = nv + 1 + (fmE es n x).length + 1 := by simp; omega
                  refine hR _ _ _ _ _ dX1_putArgument_56 ?_ (by omega) (by omega)
                  rcases h38a with ⟨z1, z2, z3⟩ | ⟨z1, z2, z3⟩
                  · first
                    | exact absurd z1 h47
                    | (rw [show agE es n x = fmE es n x from if_neg (b_f z1), z2, z3])
                  · first
                    | exact absurd h47 z1
                    | (rw [show agE es n x = 40 :: fmE es n x ++ [41] from if_pos (b_t z1), z2, z3, e3]; rw [show apL pb nv (40 :: fmE es n x ++ [41]) = apL (va_up pb nv 40) (nv + 1) (fmE es n x ++ [41]) from rfl, apL_app]; rfl)
            exact L38 _ pb nv (Nat.lt_succ_self _) (by first | exact Or.inl ⟨h29, rfl, rfl⟩ | exact Or.inr ⟨h29, rfl, rfl⟩)
          · skip
            have hlt : nv < 30 := by
              have hL : agE es n x = 40 :: fmE es n x ++ [41] := if_pos (b_t h29)
              rw [hL] at hbl; simp at hbl; omega
            refine g_aload_n C dX1_putArgument_32 1 rfl rfl ?_
            refine g_bipush C dX1_putArgument_33 (v := (nI 40)) (by decide) ?_
            refine g_callUV C ⟨g_X0_ok, trivial⟩ (t_X1_put l D ty p0 py pb nv 40 (by omega)) rfl gX1_putArgument_X1_put 1 (by decide +kernel) rfl ⟨rfl, rfl⟩ ⟨Nat.le_of_ble_eq_true rfl, Nat.le_of_ble_eq_true rfl⟩ (rest := []) (q0 := 0) rfl rfl hA [0, 1] [2, 3, 4, 5] rfl rfl rfl (wr := [(k0, .inr (1, [.int (nI es.length), .ref kf, .ref ko, .ref ka, .ref kb, .ref kt, .ref kl, .ref kp])), (ko, .inl (ty.1, 2000, .inl oF)), (ka, .inl (ty.1, 2000, .inl aF)), (kb, .inl (ty.1, 2000, .inl bF))]) rfl rfl rfl (Nat.le_of_ble_eq_true rfl) dX1_putArgument_35 ⟨Nat.le_of_ble_eq_true rfl, Nat.le_of_ble_eq_true rfl⟩ rfl (g_kuv (fun w hr => ?_))
            subst hr
            refine g_ws (ws' := [(p0, .inr (0, [.int (nI (nv + 1)), .ref py])), (py, .inl (ty.1, 30, .inl (zN (va_up pb nv 40)))), (k0, .inr (1, [.int (nI es.length), .ref kf, .ref ko, .ref ka, .ref kb, .ref kt, .ref kl, .ref kp])), (ko, .inl (ty.1, 2000, .inl oF)), (ka, .inl (ty.1, 2000, .inl aF)), (kb, .inl (ty.1, 2000, .inl bF))]) [4, 5, 0, 1, 2, 3] rfl rfl rfl ?_
            have L38 : ∀ (n9 : Nat) (pb2 : Nat → Nat) (n2 : Nat), 0 < n9 → (((isTwo es x).toNat = 0 ∧ n2 = nv ∧ pb2 = pb) ∨ (¬ (isTwo es x).toNat = 0 ∧ n2 = nv + 1 ∧ pb2 = va_up pb nv 40)) → gG (g_IU A D s) p l e ({ frames := 3 * n + 11, cells := 0, slots := 0, locals := 100 * n + 260 } : Room) s m args below meth c Q 5 0 0 38 [(4, .int (nI ((isTwo es x).toNat))), (0, .ref p0), (1, .ref k0), (2, .int (nI x)), (3, .int (nI dv))] [] [(p0, .inr (0, [.int (nI n2), .ref py])), (py, .inl (ty.1, 30, .inl (zN pb2))), (k0, .inr (1, [.int (nI es.length), .ref kf, .ref ko, .ref ka, .ref kb, .ref kt, .ref kl, .ref kp])), (ko, .inl (ty.1, 2000, .inl oF)), (ka, .inl (ty.1, 2000, .inl aF)), (kb, .inl (ty.1, 2000, .inl bF))] := by
              intro n9
              induction n9 with
              | zero => intro pb2 n2 hn; exact absurd hn (Nat.not_lt_zero _)
              | succ n9 ih38 =>
                intro pb2 n2 hn38 h38a
                have hlen : n2 + (fmE es n x).length + (isTwo es x).toNat ≤ 30 := by
                  rcases h38a with ⟨z1, z2, z3⟩ | ⟨z1, z2, z3⟩
                  · have hL : agE es n x = fmE es n x := if_neg (b_f z1)
                    rw [hL] at hbl; omega
                  · have hL : agE es n x = 40 :: fmE es n x ++ [41] := if_pos (b_t z1)
                    have hbt := bt_lt (isTwo es x)
                    rw [hL] at hbl; simp at hbl; omega
                refine g_aload_n C dX1_putArgument_38 1 rfl rfl ?_
                refine g_aload_n C dX1_putArgument_39 2 rfl rfl ?_
                refine g_iload_n C dX1_putArgument_40 3 rfl rfl ?_
                refine g_iload_n C dX1_putArgument_41 4 rfl rfl ?_
                refine g_callUV C hX (hE1 pb2 n2 dv x (by omega) (by omega) (by omega) (by omega)) rfl gX1_putArgument_X1_putEntry 3 (by decide +kernel) rfl ⟨rfl, rfl⟩ ⟨by show _ ≤ _; simp only []; omega, by show _ ≤ _; simp only []; omega⟩ (rest := []) (q0 := 0) rfl rfl hA [0, 1, 2, 3, 4, 5] [] rfl rfl rfl (wr := []) rfl rfl rfl (Nat.le_of_ble_eq_true rfl) dX1_putArgument_42 ⟨Nat.le_of_ble_eq_true rfl, Nat.le_of_ble_eq_true rfl⟩ rfl (g_kuv (fun w hr => ?_))
                subst hr
                refine g_ws (ws' := [(p0, .inr (0, [.int (nI (n2 + (fmE es n x).length)), .ref py])), (py, .inl (ty.1, 30, .inl (zN (apL pb2 n2 (fmE es n x))))), (k0, .inr (1, [.int (nI es.length), .ref kf, .ref ko, .ref ka, .ref kb, .ref kt, .ref kl, .ref kp])), (ko, .inl (ty.1, 2000, .inl oF)), (ka, .inl (ty.1, 2000, .inl aF)), (kb, .inl (ty.1, 2000, .inl bF))]) [0, 1, 2, 3, 4, 5] rfl rfl rfl ?_
                refine g_iload C dX1_putArgument_45 0 rfl ?_
                have hbt9 := bt_lt (isTwo es x)
                refine g_if_eqN C dX1_putArgument_47 (tgt := 56) (by decide) (by omega) (fun h47 => ?_) (fun h47 => ?_)
                · skip
                  have e3 : nv + (40 :: fmE es n x ++ [41]).length = nv + 1 + (fmE es n x).length + 1 := by simp; omega
                  refine hR _ _ _ _ _ dX1_putArgument_56 ?_ (by omega) (by omega)
                  rcases h38a with ⟨z1, z2, z3⟩ | ⟨z1, z2, z3⟩
                  · first
                    | exact absurd z1 h47
                    | (rw [show agE es n x = fmE es n x from if_neg (b_f z1), z2, z3])
                  · first
                    | exact absurd h47 z1
                    | (rw [show agE es n x = 40 :: fmE es n x ++ [41] from if_pos (b_t z1), z2, z3, e3]; rw [show apL pb nv (40 :: fmE es n x ++ [41]) = apL (va_up pb nv 40) (nv + 1) (fmE es n x ++ [41]) from rfl, apL_app]; rfl)
                · skip
                  refine g_aload_n C dX1_putArgument_50 1 rfl rfl ?_
                  refine g_bipush C dX1_putArgument_51 (v := (nI 41)) (by decide) ?_
                  refine g_callUV C ⟨g_X0_ok, trivial⟩ (t_X1_put l D ty p0 py (apL pb2 n2 (fmE es n x)) (n2 + (fmE es n x).length) 41 (by omega)) rfl gX1_putArgument_X1_put 1 (by decide +kernel) rfl ⟨rfl, rfl⟩ ⟨Nat.le_of_ble_eq_true rfl, Nat.le_of_ble_eq_true rfl⟩ (rest := []) (q0 := 0) rfl rfl hA [0, 1] [2, 3, 4, 5] rfl rfl rfl (wr := [(k0, .inr (1, [.int (nI es.length), .ref kf, .ref ko, .ref ka, .ref kb, .ref kt, .ref kl, .ref kp])), (ko, .inl (ty.1, 2000, .inl oF)), (ka, .inl (ty.1, 2000, .inl aF)), (kb, .inl (ty.1, 2000, .inl bF))]) rfl rfl rfl (Nat.le_of_ble_eq_true rfl) dX1_putArgument_53 ⟨Nat.le_of_ble_eq_true rfl, Nat.le_of_ble_eq_true rfl⟩ rfl (g_kuv (fun w hr => ?_))
                  subst hr
                  refine g_ws (ws' := [(p0, .inr (0, [.int (nI ((n2 + (fmE es n x).length) + 1)), .ref py])), (py, .inl (ty.1, 30, .inl (zN (va_up (apL pb2 n2 (fmE es n x)) (n2 + (fmE es n x).length) 41)))), (k0, .inr (1, [.int (nI es.length), .ref kf, .ref ko, .ref ka, .ref kb, .ref kt, .ref kl, .ref kp])), (ko, .inl (ty.1, 2000, .inl oF)), (ka, .inl (ty.1, 2000, .inl aF)), (kb, .inl (ty.1, 2000, .inl bF))]) [4, 5, 0, 1, 2, 3] rfl rfl rfl ?_
                  have e3 : nv + (40 :: fmE es n x ++ [41]).length = nv + 1 + (fmE es n x).length + 1 := by simp; omega
                  refine hR _ _ _ _ _ dX1_putArgument_56 ?_ (by omega) (by omega)
                  rcases h38a with ⟨z1, z2, z3⟩ | ⟨z1, z2, z3⟩
                  · first
                    | exact absurd z1 h47
                    | (rw [show agE es n x = fmE es n x from if_neg (b_f z1), z2, z3])
                  · first
                    | exact absurd h47 z1
                    | (rw [show agE es n x = 40 :: fmE es n x ++ [41] from if_pos (b_t z1), z2, z3, e3]; rw [show apL pb nv (40 :: fmE es n x ++ [41]) = apL (va_up pb nv 40) (nv + 1) (fmE es n x ++ [41]) from rfl, apL_app]; rfl)
            exact L38 _ (va_up pb nv 40) (nv + 1) (Nat.lt_succ_self _) (by first | exact Or.inl ⟨h29, rfl, rfl⟩ | exact Or.inr ⟨h29, rfl, rfl⟩)
      exact L25 _  (Nat.lt_succ_self _) 

theorem t_X1_lev (l : Launch) (D : va_G) (ty : g_T3) (p0 py : Nat) (k0 kf ko ka kb kt kl kp : Nat) (es : List Ent) (oF aF bF : Nat → Int32) (hr0 : ∀ i, i < es.length → oF i = eO es i ∧ aF i = eA es i ∧ bF i = eB es i) (hwf : wfE es) (hl0 : es.length ≤ 2000) : ∀ n : Nat, ∀ (pb : Nat → Nat) (nv dv x : Nat), x < es.length → eC es x < n → nv + (fmE es n x).length ≤ 30 → dv + n ≤ 7 → g_U l yX1_putEntry wsX1_putEntry ({ frames := 3 * n + 10, cells := 0, slots := 0, locals := 100 * n + 200 } : Room) D ty g_XN [.ref p0, .ref k0, .int (nI x), .int (nI dv)] [(p0, .inr (0, [.int (nI nv), .ref py])), (py, .inl (ty.1, 30, .inl (zN pb))), (k0, .inr (1, [.int (nI es.length), .ref kf, .ref ko, .ref ka, .ref kb, .ref kt, .ref kl, .ref kp])), (ko, .inl (ty.1, 2000, .inl oF)), (ka, .inl (ty.1, 2000, .inl aF)), (kb, .inl (ty.1, 2000, .inl bF))] 0 0 (g_uv (fun w => w = [(p0, .inr (0, [.int (nI (nv + (fmE es n x).length)), .ref py])), (py, .inl (ty.1, 30, .inl (zN (apL pb nv (fmE es n x))))), (k0, .inr (1, [.int (nI es.length), .ref kf, .ref ko, .ref ka, .ref kb, .ref kt, .ref kl, .ref kp])), (ko, .inl (ty.1, 2000, .inl oF)), (ka, .inl (ty.1, 2000, .inl aF)), (kb, .inl (ty.1, 2000, .inl bF))])) := by
  intro n
  induction n with
  | zero => intro pb nv dv x _ h; exact absurd h (Nat.not_lt_zero _)
  | succ n ih =>
    intro pb nv dv x h1 h2 h3 h4
    exact t_X1_putEntry l D ty p0 py k0 kf ko ka kb kt kl kp es oF aF bF hr0 hwf hl0 n (fun pb nv dv x h1 h2 h3 h4 => t_X1_putArgument l D ty p0 py k0 kf ko ka kb kt kl kp es oF aF bF hr0 hwf hl0 n ih pb nv dv x h1 h2 h3 h4) pb nv dv x h1 h2 h3 h4


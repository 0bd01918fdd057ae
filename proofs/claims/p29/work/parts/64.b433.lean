set_option maxHeartbeats 4000000 in
set_option maxRecDepth 100000 in
theorem ls_433 {p : Program} {e : Env} {s : State} {m : MethodId} {args : Array Value} {below : List Frame} {meth : Method} {c : Code} {Q : State → Prop} {A : Nat → Prop} (l : Launch) (hfl : l.stackTraces = false) (D : va_G) (ty : g_T3) (C : g_Cx (g_IU A D s) p s m args c code 12 A D ty RL wsL_law) (hA : ∀ q, s.heap.size ≤ q → A q) (hX : g_Xok g_XT ∧ g_XT A s) {b L : Nat} {xs : Nat → Int32} (hsx : va_X b L xs s s.heap) (hbl : b < s.heap.size) (hbA : ¬ A b) (hL : L ≤ 260) (hEnd : ∀ (cells slots : Nat) (lv : g_Lv) (ws : va_W), cells ≤ 600086 → slots ≤ 7301442 → gG (g_IU A D s) p l e room_1 s m args below meth c Q 12 cells slots 604 lv [.int (nI 1)] ws) (x0 s0 sp sa sc k0 kf ko ka kb kt kl kp p0 t0 : Nat) (bu : Nat) (st : Nat → Nat) (es : List Ent) (tF : Nat → Int32) (hbu : bu ≤ 2) (ht : ∀ j, j < 8 → tF j = nI (st j)) (hI : stI es st) (hc1 : ∀ i, i < es.length → eC es i ≤ bu + 1) : ∀ (n9 : Nat) (u : Nat), 7 - u < n9 → (u ≤ 7) → gG (g_IU A D s) p l e room_1 s m args below meth c Q 12 (16100 + u) (123400 + 6 * u) 433 [(10, .int (nI u)), (9, .int (nI (st u))), (8, .int (nI es.length)), (4, .int (nI bu)), (1, .ref x0), (0, .ref b)] [] [(x0, .inr (4, [.ref s0, .ref k0, .ref p0, .ref t0])), (k0, .inr (1, [.int (nI es.length), .ref kf, .ref ko, .ref ka, .ref kb, .ref kt, .ref kl, .ref kp])), (kt, .inl (ty.1, 8, .inl tF))] := by
  intro n9
  induction n9 with
  | zero => intro u hn; exact absurd hn (Nat.not_lt_zero _)
  | succ n9 ih433 =>
    intro u hn9 hu7
    have hRc : room_1.cells = 600086 := rfl
    have hRs : room_1.slots = 7301442 := rfl
    have hlen : es.length ≤ 2000 := hI.2.2.2.2
    have hb7 := stI_b hI
    refine g_iload C dL_law_433 0 rfl ?_
    refine g_bipush C dL_law_435 (v := (nI 6)) (by decide) ?_
    refine g_icmp_gtN C dL_law_437 (tgt := 457) (by decide) (by omega) (by omega) (fun h437 => ?_) (fun h437 => ?_)
    · skip
      obtain rfl : u = 7 := by omega
      refine g_iload C dL_law_457 1 rfl ?_
      refine g_iload C dL_law_459 2 rfl ?_
      refine g_icmp_neN C dL_law_461 (tgt := 477) (by decide) (hb7 7 (by decide)) (by omega) (fun h461 => ?_) (fun h461 => ?_)
      · skip
        exact absurd hI.2.2.2.1 h461
      · skip
        refine g_aload_n C dL_law_464 4 rfl rfl ?_
        refine g_callPV C ⟨g_X0_ok, trivial⟩ (t_X5_meanCost l D ty x0 s0 p0 t0 k0 kf ko ka kb kt kl kp es.length hlen tF st ht hI.2.1.2 (by rw [hI.2.2.2.1]; exact hI.2.2.2.2)) rfl gL_law_X5_meanCost 0 (by decide +kernel) rfl ⟨rfl, rfl⟩ ⟨Nat.le_of_ble_eq_true rfl, Nat.le_of_ble_eq_true rfl⟩ (rest := []) (q0 := 0) rfl rfl [0, 1, 2] rfl (Nat.le_of_ble_eq_true rfl) dL_law_465 ⟨by rw [hRc]; omega, by rw [hRs]; omega⟩ rfl (g_kd (fun r465 hr465 => ?_))
        subst hr465
        refine g_iload C dL_law_468 3 rfl ?_
        refine g_i2d C dL_law_470 ?_
        refine g_dconst1 C dL_law_471 ?_
        refine g_dadd C dL_law_472 (rhs_ok hbu) ?_
        refine g_dcmp C dL_law_473 ?_
        refine g_if_le C dL_law_474 (tgt := 479) (by decide) (fun h474 => ?_) (fun h474 => ?_)
        · skip
          refine g_lv (lv' := [(1, .ref x0), (0, .ref b)]) [4, 5] rfl ?_
          refine g_ws (ws' := [(x0, .inr (4, [.ref s0, .ref k0, .ref p0, .ref t0]))]) [0] rfl rfl rfl ?_
          refine g_wid (k0 := (16110)) (n0 := (123450)) (by omega) (by omega) ?_
          exact ls_479 l hfl D ty C hA hX hsx hbl hbA hL hEnd x0 s0 k0 p0 t0  
        · skip
          exact absurd (mean_ok hI hbu hc1) (by omega)
    · skip
      refine g_iload C dL_law_440 1 rfl ?_
      refine g_aload_n C dL_law_442 4 rfl rfl ?_
      refine g_iload C dL_law_443 0 rfl ?_
      refine g_callTV C hX (t_X5_ofCost l hfl D ty x0 s0 p0 t0 k0 kf ko ka kb kt kl kp es.length hlen tF st ht (nI u)) rfl gL_law_X5_ofCost 1 (by decide +kernel) rfl ⟨rfl, rfl⟩ ⟨Nat.le_of_ble_eq_true rfl, Nat.le_of_ble_eq_true rfl⟩ (rest := [.int (nI (st u))]) (q0 := 0) rfl rfl hA [0, 1, 2] [] rfl rfl rfl (wr := []) rfl rfl rfl (Nat.le_of_ble_eq_true rfl) dL_law_445 ⟨by rw [hRc]; omega, by rw [hRs]; omega⟩ rfl ?_ (g_kui (fun r445 w hr445 => ?_))
      · intro E q9 hE
        exfalso
        obtain ⟨-, hq⟩ := hE
        rw [nI_toInt (by omega)] at hq
        omega
      · skip
        obtain ⟨k445, hk445, hok445, rfl, rfl⟩ := hr445
        obtain rfl : u = k445 := nI_ij (by omega) (by omega) hok445
        refine g_ws (ws' := [(x0, .inr (4, [.ref s0, .ref k0, .ref p0, .ref t0])), (k0, .inr (1, [.int (nI es.length), .ref kf, .ref ko, .ref ka, .ref kb, .ref kt, .ref kl, .ref kp])), (kt, .inl (ty.1, 8, .inl tF))]) [0, 1, 2] rfl rfl rfl ?_
        refine g_iadd C dL_law_448 (v := (nI (st (u + 1)))) (sum_st hI h437) ?_
        refine g_istore C dL_law_449 (by decide) (lv' := [(9, .int (nI (st (u + 1)))), (10, .int (nI u)), (8, .int (nI es.length)), (4, .int (nI bu)), (1, .ref x0), (0, .ref b)]) rfl ?_
        refine g_iinc C dL_law_451 1 rfl (v := (nI (u + 1))) (nI_1 u) (by decide) (lv' := [(10, .int (nI (u + 1))), (9, .int (nI (st (u + 1)))), (8, .int (nI es.length)), (4, .int (nI bu)), (1, .ref x0), (0, .ref b)]) rfl ?_
        refine g_goto C dL_law_454 (tgt := 433) (by decide) ?_
        refine g_wid (k0 := (16100 + (u + 1))) (n0 := (123400 + 6 * (u + 1))) (by omega) (by omega) ?_
        exact ih433 (u + 1) (by omega) (by omega)


set_option maxHeartbeats 4000000 in
set_option maxRecDepth 100000 in
theorem ls_479 {p : Program} {e : Env} {s : State} {m : MethodId} {args : Array Value} {below : List Frame} {meth : Method} {c : Code} {Q : State → Prop} {A : Nat → Prop} (l : Launch) (hfl : l.stackTraces = false) (D : va_G) (ty : g_T3) (C : g_Cx (g_IU A D s) p s m args c code 12 A D ty RL wsL_law) (hA : ∀ q, s.heap.size ≤ q → A q) (hX : g_Xok g_XT ∧ g_XT A s) {b L : Nat} {xs : Nat → Int32} (hsx : va_X b L xs s s.heap) (hbl : b < s.heap.size) (hbA : ¬ A b) (hL : L ≤ 260) (hEnd : ∀ (cells slots : Nat) (lv : g_Lv) (ws : va_W), cells ≤ 600086 → slots ≤ 7301442 → gG (g_IU A D s) p l e room_1 s m args below meth c Q 12 cells slots 604 lv [.int (nI 1)] ws) (x0 s0 k0 p0 t0 : Nat)   : gG (g_IU A D s) p l e room_1 s m args below meth c Q 12 (16110) (123450) 479 [(1, .ref x0), (0, .ref b)] [] [(x0, .inr (4, [.ref s0, .ref k0, .ref p0, .ref t0]))] := by
  have hRc : room_1.cells = 600086 := rfl
  have hRs : room_1.slots = 7301442 := rfl
  refine g_aload_n C dL_law_479 1 rfl rfl ?_
  refine g_iconst C dL_law_480 (v := (nI 5)) (by decide) ?_
  refine g_callPS C ⟨g_XS_ok b L xs, hsx, hbl, hbA⟩ (t_L_chosen l D ty b L xs hL 5 (by omega)) rfl gL_law_L_chosen 2 (by decide +kernel) rfl ⟨rfl, rfl⟩ ⟨Nat.le_of_ble_eq_true rfl, Nat.le_of_ble_eq_true rfl⟩ (rest := []) [] rfl (Nat.le_of_ble_eq_true rfl) dL_law_481 ⟨by rw [hRc]; omega, by rw [hRs]; omega⟩ rfl (g_kl (fun f9 hf9 => ?_))
  clear hf9
  have b1 := bc_16 (imF f9 65535)
  have b3 := bc_16 (itF f9 16)
  have h31 := full_b (f := f9)
  have h03 := ms_03 f9
  refine g_lstore C dL_law_484 (by decide) (lv' := [(10, .long f9), (1, .ref x0), (0, .ref b)]) rfl ?_
  refine g_aload_n C dL_law_486 1 rfl rfl ?_
  refine g_lload C dL_law_487 0 rfl ?_
  refine g_iconst C dL_law_489 (v := (nI 1)) (by decide) ?_
  refine g_callTV C hX (t_X5_measure l hfl D ty x0 f9 (nI 1)) rfl gL_law_X5_measure 2 (by decide +kernel) rfl ⟨rfl, rfl⟩ ⟨Nat.le_of_ble_eq_true rfl, Nat.le_of_ble_eq_true rfl⟩ (rest := []) (q0 := 0) rfl rfl hA [] [0] rfl rfl rfl (wr := [(x0, .inr (4, [.ref s0, .ref k0, .ref p0, .ref t0]))]) rfl rfl rfl (Nat.le_of_ble_eq_true rfl) dL_law_490 ⟨by rw [hRc]; omega, by rw [hRs]; omega⟩ rfl ?_ (g_kui (fun r490 w hr490 => ?_))
  · intro E q9 hE
    exfalso
    obtain ⟨-, hq⟩ := hE
    rw [nI_toInt (by decide)] at hq
    omega
  · skip
    obtain ⟨k490, hk490, hok490, hv490, rfl⟩ := hr490
    obtain rfl : 1 = k490 := nI_ij (by decide) (by omega) hok490
    replace hv490 := ms_n1 hv490
    subst hv490
    refine g_ws (ws' := [(x0, .inr (4, [.ref s0, .ref k0, .ref p0, .ref t0]))]) [0] rfl rfl rfl ?_
    refine g_bipush C dL_law_493 (v := (nI 16)) (by decide) ?_
    have J545 : gG (g_IU A D s) p l e room_1 s m args below meth c Q 12 (((16110) + 1) + 3) (((123450) + 6) + 18) 545 [(10, .long f9), (1, .ref x0), (0, .ref b)] [] [(x0, .inr (4, [.ref s0, .ref k0, .ref p0, .ref t0]))] := by
      refine g_aload_n C dL_law_545 1 rfl rfl ?_
      refine g_lload C dL_law_546 0 rfl ?_
      refine g_iconst C dL_law_548 (v := (nI 0)) (by decide) ?_
      refine g_callTV C hX (t_X5_measure l hfl D ty x0 f9 (nI 0)) rfl gL_law_X5_measure 2 (by decide +kernel) rfl ⟨rfl, rfl⟩ ⟨Nat.le_of_ble_eq_true rfl, Nat.le_of_ble_eq_true rfl⟩ (rest := []) (q0 := 0) rfl rfl hA [] [0] rfl rfl rfl (wr := [(x0, .inr (4, [.ref s0, .ref k0, .ref p0, .ref t0]))]) rfl rfl rfl (Nat.le_of_ble_eq_true rfl) dL_law_549 ⟨by rw [hRc]; omega, by rw [hRs]; omega⟩ rfl ?_ (g_kui (fun r549 w hr549 => ?_))
      · intro E q9 hE
        exfalso
        obtain ⟨-, hq⟩ := hE
        rw [nI_toInt (by decide)] at hq
        omega
      · skip
        obtain ⟨k549, hk549, hok549, hv549, rfl⟩ := hr549
        obtain rfl : 0 = k549 := nI_ij (by decide) (by omega) hok549
        replace hv549 := ms_n0 hv549
        subst hv549
        refine g_ws (ws' := [(x0, .inr (4, [.ref s0, .ref k0, .ref p0, .ref t0]))]) [0] rfl rfl rfl ?_
        refine g_aload_n C dL_law_552 1 rfl rfl ?_
        refine g_lload C dL_law_553 0 rfl ?_
        refine g_iconst C dL_law_555 (v := (nI 3)) (by decide) ?_
        refine g_callTV C hX (t_X5_measure l hfl D ty x0 f9 (nI 3)) rfl gL_law_X5_measure 2 (by decide +kernel) rfl ⟨rfl, rfl⟩ ⟨Nat.le_of_ble_eq_true rfl, Nat.le_of_ble_eq_true rfl⟩ (rest := [.int (nI (16 - sN (ne01 f9 fX) 16))]) (q0 := 0) rfl rfl hA [] [0] rfl rfl rfl (wr := [(x0, .inr (4, [.ref s0, .ref k0, .ref p0, .ref t0]))]) rfl rfl rfl (Nat.le_of_ble_eq_true rfl) dL_law_556 ⟨by rw [hRc]; omega, by rw [hRs]; omega⟩ rfl ?_ (g_kui (fun r556 w hr556 => ?_))
        · intro E q9 hE
          exfalso
          obtain ⟨-, hq⟩ := hE
          rw [nI_toInt (by decide)] at hq
          omega
        · skip
          obtain ⟨k556, hk556, hok556, hv556, rfl⟩ := hr556
          obtain rfl : 3 = k556 := nI_ij (by decide) (by omega) hok556
          replace hv556 := ms_n3 hv556
          subst hv556
          refine g_ws (ws' := [(x0, .inr (4, [.ref s0, .ref k0, .ref p0, .ref t0]))]) [0] rfl rfl rfl ?_
          refine g_icmp_gtN C dL_law_559 (tgt := 603) (by decide) (by omega) (by omega) (fun h559 => ?_) (fun h559 => ?_)
          · skip
            exact absurd h559 (by omega)
          · skip
            refine g_aload_n C dL_law_562 1 rfl rfl ?_
            refine g_lload C dL_law_563 0 rfl ?_
            refine g_iconst C dL_law_565 (v := (nI 3)) (by decide) ?_
            refine g_callTV C hX (t_X5_measure l hfl D ty x0 f9 (nI 3)) rfl gL_law_X5_measure 2 (by decide +kernel) rfl ⟨rfl, rfl⟩ ⟨Nat.le_of_ble_eq_true rfl, Nat.le_of_ble_eq_true rfl⟩ (rest := []) (q0 := 0) rfl rfl hA [] [0] rfl rfl rfl (wr := [(x0, .inr (4, [.ref s0, .ref k0, .ref p0, .ref t0]))]) rfl rfl rfl (Nat.le_of_ble_eq_true rfl) dL_law_566 ⟨by rw [hRc]; omega, by rw [hRs]; omega⟩ rfl ?_ (g_kui (fun r566 w hr566 => ?_))
            · intro E q9 hE
              exfalso
              obtain ⟨-, hq⟩ := hE
              rw [nI_toInt (by decide)] at hq
              omega
            · skip
              obtain ⟨k566, hk566, hok566, hv566, rfl⟩ := hr566
              obtain rfl : 3 = k566 := nI_ij (by decide) (by omega) hok566
              replace hv566 := ms_n3 hv566
              subst hv566
              refine g_ws (ws' := [(x0, .inr (4, [.ref s0, .ref k0, .ref p0, .ref t0]))]) [0] rfl rfl rfl ?_
              refine g_aload_n C dL_law_569 1 rfl rfl ?_
              refine g_lload C dL_law_570 0 rfl ?_
              refine g_iconst C dL_law_572 (v := (nI 1)) (by decide) ?_
              refine g_callTV C hX (t_X5_measure l hfl D ty x0 f9 (nI 1)) rfl gL_law_X5_measure 2 (by decide +kernel) rfl ⟨rfl, rfl⟩ ⟨Nat.le_of_ble_eq_true rfl, Nat.le_of_ble_eq_true rfl⟩ (rest := [.int (nI (bcN (itF f9 16)))]) (q0 := 0) rfl rfl hA [] [0] rfl rfl rfl (wr := [(x0, .inr (4, [.ref s0, .ref k0, .ref p0, .ref t0]))]) rfl rfl rfl (Nat.le_of_ble_eq_true rfl) dL_law_573 ⟨by rw [hRc]; omega, by rw [hRs]; omega⟩ rfl ?_ (g_kui (fun r573 w hr573 => ?_))
              · intro E q9 hE
                exfalso
                obtain ⟨-, hq⟩ := hE
                rw [nI_toInt (by decide)] at hq
                omega
              · skip
                obtain ⟨k573, hk573, hok573, hv573, rfl⟩ := hr573
                obtain rfl : 1 = k573 := nI_ij (by decide) (by omega) hok573
                replace hv573 := ms_n1 hv573
                subst hv573
                refine g_ws (ws' := [(x0, .inr (4, [.ref s0, .ref k0, .ref p0, .ref t0]))]) [0] rfl rfl rfl ?_
                refine g_icmp_gtN C dL_law_576 (tgt := 603) (by decide) (by omega) (by omega) (fun h576 => ?_) (fun h576 => ?_)
                · skip
                  exact absurd h576 (by omega)
                · skip
                  refine g_aload_n C dL_law_579 1 rfl rfl ?_
                  refine g_lload C dL_law_580 0 rfl ?_
                  refine g_iconst C dL_law_582 (v := (nI 4)) (by decide) ?_
                  refine g_callTV C hX (t_X5_measure l hfl D ty x0 f9 (nI 4)) rfl gL_law_X5_measure 2 (by decide +kernel) rfl ⟨rfl, rfl⟩ ⟨Nat.le_of_ble_eq_true rfl, Nat.le_of_ble_eq_true rfl⟩ (rest := []) (q0 := 0) rfl rfl hA [] [0] rfl rfl rfl (wr := [(x0, .inr (4, [.ref s0, .ref k0, .ref p0, .ref t0]))]) rfl rfl rfl (Nat.le_of_ble_eq_true rfl) dL_law_583 ⟨by rw [hRc]; omega, by rw [hRs]; omega⟩ rfl ?_ (g_kui (fun r583 w hr583 => ?_))
                  · intro E q9 hE
                    exfalso
                    obtain ⟨-, hq⟩ := hE
                    rw [nI_toInt (by decide)] at hq
                    omega
                  · skip
                    obtain ⟨k583, hk583, hok583, hv583, rfl⟩ := hr583
                    obtain rfl : 4 = k583 := nI_ij (by decide) (by omega) hok583
                    obtain ⟨n583, hv583, hle583⟩ := ms_n4 hv583
                    subst hv583
                    refine g_ws (ws' := [(x0, .inr (4, [.ref s0, .ref k0, .ref p0, .ref t0]))]) [0] rfl rfl rfl ?_
                    refine g_bipush C dL_law_586 (v := (nI 16)) (by decide) ?_
                    refine g_aload_n C dL_law_588 1 rfl rfl ?_
                    refine g_lload C dL_law_589 0 rfl ?_
                    refine g_iconst C dL_law_591 (v := (nI 3)) (by decide) ?_
                    refine g_callTV C hX (t_X5_measure l hfl D ty x0 f9 (nI 3)) rfl gL_law_X5_measure 2 (by decide +kernel) rfl ⟨rfl, rfl⟩ ⟨Nat.le_of_ble_eq_true rfl, Nat.le_of_ble_eq_true rfl⟩ (rest := [.int (nI 16), .int (nI n583)]) (q0 := 0) rfl rfl hA [] [0] rfl rfl rfl (wr := [(x0, .inr (4, [.ref s0, .ref k0, .ref p0, .ref t0]))]) rfl rfl rfl (Nat.le_of_ble_eq_true rfl) dL_law_592 ⟨by rw [hRc]; omega, by rw [hRs]; omega⟩ rfl ?_ (g_kui (fun r592 w hr592 => ?_))
                    · intro E q9 hE
                      exfalso
                      obtain ⟨-, hq⟩ := hE
                      rw [nI_toInt (by decide)] at hq
                      omega
                    · skip
                      obtain ⟨k592, hk592, hok592, hv592, rfl⟩ := hr592
                      obtain rfl : 3 = k592 := nI_ij (by decide) (by omega) hok592
                      replace hv592 := ms_n3 hv592
                      subst hv592
                      refine g_ws (ws' := [(x0, .inr (4, [.ref s0, .ref k0, .ref p0, .ref t0]))]) [0] rfl rfl rfl ?_
                      refine g_isub C dL_law_595 (v := (nI (16 - (bcN (itF f9 16))))) (pk_sub (by omega)) ?_
                      refine g_icmp_gtN C dL_law_596 (tgt := 603) (by decide) (by omega) (by omega) (fun h596 => ?_) (fun h596 => ?_)
                      · skip
                        exact absurd h596 (by omega)
                      · skip
                        refine g_iconst C dL_law_599 (v := (nI 1)) (by decide) ?_
                        refine g_goto C dL_law_600 (tgt := 604) (by decide) ?_
                        exact hEnd _ _ _ _ (by omega) (by omega)
    refine g_icmp_neN C dL_law_495 (tgt := 531) (by decide) (by omega) (by omega) (fun h495 => ?_) (fun h495 => ?_)
    · skip
      refine g_aload_n C dL_law_531 1 rfl rfl ?_
      refine g_lload C dL_law_532 0 rfl ?_
      refine g_iconst C dL_law_534 (v := (nI 3)) (by decide) ?_
      refine g_callTV C hX (t_X5_measure l hfl D ty x0 f9 (nI 3)) rfl gL_law_X5_measure 2 (by decide +kernel) rfl ⟨rfl, rfl⟩ ⟨Nat.le_of_ble_eq_true rfl, Nat.le_of_ble_eq_true rfl⟩ (rest := []) (q0 := 0) rfl rfl hA [] [0] rfl rfl rfl (wr := [(x0, .inr (4, [.ref s0, .ref k0, .ref p0, .ref t0]))]) rfl rfl rfl (Nat.le_of_ble_eq_true rfl) dL_law_535 ⟨by rw [hRc]; omega, by rw [hRs]; omega⟩ rfl ?_ (g_kui (fun r535 w hr535 => ?_))
      · intro E q9 hE
        exfalso
        obtain ⟨-, hq⟩ := hE
        rw [nI_toInt (by decide)] at hq
        omega
      · skip
        obtain ⟨k535, hk535, hok535, hv535, rfl⟩ := hr535
        obtain rfl : 3 = k535 := nI_ij (by decide) (by omega) hok535
        replace hv535 := ms_n3 hv535
        subst hv535
        refine g_ws (ws' := [(x0, .inr (4, [.ref s0, .ref k0, .ref p0, .ref t0]))]) [0] rfl rfl rfl ?_
        refine g_bipush C dL_law_538 (v := (nI 16)) (by decide) ?_
        refine g_icmp_neN C dL_law_540 (tgt := 545) (by decide) (by omega) (by omega) (fun h540 => ?_) (fun h540 => ?_)
        · skip
          refine g_wid (k0 := (((16110) + 1) + 3)) (n0 := (((123450) + 6) + 18)) (by omega) (by omega) ?_
          exact J545 
        · skip
          exact absurd h540 (by omega)
    · skip
      refine g_aload_n C dL_law_498 1 rfl rfl ?_
      refine g_lload C dL_law_499 0 rfl ?_
      refine g_aload_n C dL_law_501 1 rfl rfl ?_
      refine g_lload C dL_law_502 0 rfl ?_
      refine g_callTV C hX (t_X5_inverse l hfl D ty x0 f9) rfl gL_law_X5_inverse 1 (by decide +kernel) rfl ⟨rfl, rfl⟩ ⟨Nat.le_of_ble_eq_true rfl, Nat.le_of_ble_eq_true rfl⟩ (rest := [.long f9, .ref x0]) (q0 := 0) rfl rfl hA [] [0] rfl rfl rfl (wr := [(x0, .inr (4, [.ref s0, .ref k0, .ref p0, .ref t0]))]) rfl rfl rfl (Nat.le_of_ble_eq_true rfl) dL_law_504 ⟨by rw [hRc]; omega, by rw [hRs]; omega⟩ rfl ?_ (g_kul (fun r504 w hr504 => ?_))
      · intro E q9 hE
        exfalso
        obtain ⟨-, hq⟩ := hE
        have hq2 := iv_16 h495
        omega
      · skip
        obtain ⟨h16, rfl, rfl⟩ := hr504
        refine g_ws (ws' := [(x0, .inr (4, [.ref s0, .ref k0, .ref p0, .ref t0]))]) [0] rfl rfl rfl ?_
        refine g_callPV C ⟨g_X0_ok, trivial⟩ (t_X5_compose l D ty x0 f9 (ivN f9 16)) rfl gL_law_X5_compose 2 (by decide +kernel) rfl ⟨rfl, rfl⟩ ⟨Nat.le_of_ble_eq_true rfl, Nat.le_of_ble_eq_true rfl⟩ (rest := []) (q0 := 0) rfl rfl [] rfl (Nat.le_of_ble_eq_true rfl) dL_law_507 ⟨by rw [hRc]; omega, by rw [hRs]; omega⟩ rfl (g_kl (fun r507 hr507 => ?_))
        subst hr507
        refine g_ldc2 C (v := (-81985529216486896)) 5 rfl dL_law_510 ?_
        refine g_lcmp C dL_law_513 ?_
        refine g_if_ne C dL_law_514 (tgt := 529) (by decide) (fun h514 => ?_) (fun h514 => ?_)
        · skip
          exact absurd (lg_eq (comp_iv h495)) h514
        · skip
          refine g_aload_n C dL_law_517 1 rfl rfl ?_
          refine g_lload C dL_law_518 0 rfl ?_
          refine g_iconst C dL_law_520 (v := (nI 3)) (by decide) ?_
          refine g_callTV C hX (t_X5_measure l hfl D ty x0 f9 (nI 3)) rfl gL_law_X5_measure 2 (by decide +kernel) rfl ⟨rfl, rfl⟩ ⟨Nat.le_of_ble_eq_true rfl, Nat.le_of_ble_eq_true rfl⟩ (rest := []) (q0 := 0) rfl rfl hA [] [0] rfl rfl rfl (wr := [(x0, .inr (4, [.ref s0, .ref k0, .ref p0, .ref t0]))]) rfl rfl rfl (Nat.le_of_ble_eq_true rfl) dL_law_521 ⟨by rw [hRc]; omega, by rw [hRs]; omega⟩ rfl ?_ (g_kui (fun r521 w hr521 => ?_))
          · intro E q9 hE
            exfalso
            obtain ⟨-, hq⟩ := hE
            rw [nI_toInt (by decide)] at hq
            omega
          · skip
            obtain ⟨k521, hk521, hok521, hv521, rfl⟩ := hr521
            obtain rfl : 3 = k521 := nI_ij (by decide) (by omega) hok521
            replace hv521 := ms_n3 hv521
            subst hv521
            refine g_ws (ws' := [(x0, .inr (4, [.ref s0, .ref k0, .ref p0, .ref t0]))]) [0] rfl rfl rfl ?_
            refine g_bipush C dL_law_524 (v := (nI 16)) (by decide) ?_
            refine g_icmp_eqN C dL_law_526 (tgt := 545) (by decide) (by omega) (by omega) (fun h526 => ?_) (fun h526 => ?_)
            · skip
              refine g_wid (k0 := (((16110) + 1) + 3)) (n0 := (((123450) + 6) + 18)) (by omega) (by omega) ?_
              exact J545 
            · skip
              exact absurd (full_a h495) h526


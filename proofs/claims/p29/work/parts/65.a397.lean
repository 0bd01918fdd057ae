set_option maxHeartbeats 4000000 in
set_option maxRecDepth 100000 in
theorem ls_397 {p : Program} {e : Env} {s : State} {m : MethodId} {args : Array Value} {below : List Frame} {meth : Method} {c : Code} {Q : State → Prop} {A : Nat → Prop} (l : Launch) (hfl : l.stackTraces = false) (D : va_G) (ty : g_T3) (C : g_Cx (g_IU A D s) p s m args c code 12 A D ty RL wsL_law) (hA : ∀ q, s.heap.size ≤ q → A q) (hX : g_Xok g_XT ∧ g_XT A s) {b L : Nat} {xs : Nat → Int32} (hsx : va_X b L xs s s.heap) (hbl : b < s.heap.size) (hbA : ¬ A b) (hL : L ≤ 260) (hEnd : ∀ (cells slots : Nat) (lv : g_Lv) (ws : va_W), cells ≤ 600086 → slots ≤ 7301442 → gG (g_IU A D s) p l e room_1 s m args below meth c Q 12 cells slots 604 lv [.int (nI 1)] ws) (x0 s0 sp sa sc k0 kf ko ka kb kt kl kp p0 t0 oa : Nat) (bu : Nat) (st : Nat → Nat) (ez : List Ent) (fo : Nat → Int64) (es : List Ent) (fF : Nat → Int64) (oF : Nat → Int32) (aF : Nat → Int32) (bF : Nat → Int32) (tF : Nat → Int32) (sF : Nat → Int32) (hbu : bu ≤ 2) (hw : rowOk es fF oF aF bF sF) (ht : ∀ j, j < 8 → tF j = nI (st j)) (hI : stI es st) (hc1 : ∀ i, i < es.length → eC es i ≤ bu + 1) (hfz : ∀ j, j < ez.length → fo j = eF ez j) (hpz : preE ez es) (hlz : ez.length ≤ 2000) : ∀ (n9 : Nat) (i : Nat), ez.length - i < n9 → (i ≤ ez.length) → gG (g_IU A D s) p l e room_1 s m args below meth c Q 12 (14100 + i) (111400 + 6 * i) 397 [(9, .int (nI i)), (8, .int (nI es.length)), (5, .int (nI ez.length)), (6, .ref oa), (1, .ref x0), (4, .int (nI bu)), (0, .ref b)] [] [(x0, .inr (4, [.ref s0, .ref k0, .ref p0, .ref t0])), (k0, .inr (1, [.int (nI es.length), .ref kf, .ref ko, .ref ka, .ref kb, .ref kt, .ref kl, .ref kp])), (kf, .inl (ty.2.1, 2000, .inr (.inl fF))), (kt, .inl (ty.1, 8, .inl tF)), (oa, .inl (ty.2.1, ez.length, .inr (.inl fo)))] := by
  intro n9
  induction n9 with
  | zero => intro i hn; exact absurd hn (Nat.not_lt_zero _)
  | succ n9 ih397 =>
    intro i hn9 hiz
    have hRc : room_1.cells = 600086 := rfl
    have hRs : room_1.slots = 7301442 := rfl
    have hlen : es.length ≤ 2000 := hI.2.2.2.2
    have hle := hpz.1
    refine g_iload C dL_law_397 0 rfl ?_
    refine g_iload C dL_law_399 2 rfl ?_
    refine g_icmp_geN C dL_law_401 (tgt := 427) (by decide) (by omega) (by omega) (fun h401 => ?_) (fun h401 => ?_)
    · skip
      refine g_iconst C dL_law_427 (v := (nI (st 0))) (by rw [hI.2.2.1]; decide) ?_
      refine g_istore C dL_law_428 (by decide) (lv' := [(9, .int (nI (st 0))), (8, .int (nI es.length)), (5, .int (nI ez.length)), (6, .ref oa), (1, .ref x0), (4, .int (nI bu)), (0, .ref b)]) rfl ?_
      refine g_iconst C dL_law_430 (v := (nI 0)) (by decide) ?_
      refine g_istore C dL_law_431 (by decide) (lv' := [(10, .int (nI 0)), (9, .int (nI (st 0))), (8, .int (nI es.length)), (5, .int (nI ez.length)), (6, .ref oa), (1, .ref x0), (4, .int (nI bu)), (0, .ref b)]) rfl ?_
      refine g_lv (lv' := [(10, .int (nI 0)), (9, .int (nI (st 0))), (8, .int (nI es.length)), (4, .int (nI bu)), (1, .ref x0), (0, .ref b)]) [0, 1, 2, 6, 5, 7] rfl ?_
      refine g_ws (ws' := [(x0, .inr (4, [.ref s0, .ref k0, .ref p0, .ref t0])), (k0, .inr (1, [.int (nI es.length), .ref kf, .ref ko, .ref ka, .ref kb, .ref kt, .ref kl, .ref kp])), (kt, .inl (ty.1, 8, .inl tF))]) [0, 1, 3] rfl rfl rfl ?_
      refine g_wid (k0 := (16100 + 0)) (n0 := (123400 + 6 * 0)) (by omega) (by omega) ?_
      exact ls_433 l hfl D ty C hA hX hsx hbl hbA hL hEnd x0 s0 sp sa sc k0 kf ko ka kb kt kl kp p0 t0 bu st es tF hbu ht hI hc1 (7 - 0 + 1) 0 (Nat.lt_succ_self _) (by omega)
    · skip
      refine g_aload_n C dL_law_404 4 rfl rfl ?_
      refine g_iload C dL_law_405 0 rfl ?_
      refine g_callTV C hX (t_X5_function l hfl D ty x0 s0 p0 t0 k0 kf ko ka kb kt kl kp es fF oF aF bF tF sF (fun _ => 0) hw (nI i)) rfl gL_law_X5_function 1 (by decide +kernel) rfl ⟨rfl, rfl⟩ ⟨Nat.le_of_ble_eq_true rfl, Nat.le_of_ble_eq_true rfl⟩ (rest := []) (q0 := 0) rfl rfl hA [0, 1, 2] [3, 4] rfl rfl rfl (wr := [(kt, .inl (ty.1, 8, .inl tF)), (oa, .inl (ty.2.1, ez.length, .inr (.inl fo)))]) rfl rfl rfl (Nat.le_of_ble_eq_true rfl) dL_law_407 ⟨by rw [hRc]; omega, by rw [hRs]; omega⟩ rfl ?_ (g_kul (fun r407 w hr407 => ?_))
      · intro E q9 hE
        exfalso
        obtain ⟨-, hq⟩ := hE
        rw [nI_toInt (by omega)] at hq
        omega
      · skip
        obtain ⟨k407, hk407, hok407, rfl, rfl⟩ := hr407
        obtain rfl : i = k407 := nI_ij (by omega) (by omega) hok407
        refine g_ws (ws' := [(x0, .inr (4, [.ref s0, .ref k0, .ref p0, .ref t0])), (k0, .inr (1, [.int (nI es.length), .ref kf, .ref ko, .ref ka, .ref kb, .ref kt, .ref kl, .ref kp])), (kf, .inl (ty.2.1, 2000, .inr (.inl fF))), (kt, .inl (ty.1, 8, .inl tF)), (oa, .inl (ty.2.1, ez.length, .inr (.inl fo)))]) [2, 3, 4, 0, 1] rfl rfl rfl ?_
        refine g_aload C dL_law_410 3 rfl ?_
        refine g_iload C dL_law_412 0 rfl ?_
        refine g_lald C (v := (eF ez i)) 4 rfl (by omega) (by omega) (hfz i h401) dL_law_414 ?_
        refine g_lcmp C dL_law_415 ?_
        refine g_if_eq C dL_law_416 (tgt := 421) (by decide) (fun h416 => ?_) (fun h416 => ?_)
        · skip
          refine g_iinc C dL_law_421 0 rfl (v := (nI (i + 1))) (nI_1 i) (by decide) (lv' := [(9, .int (nI (i + 1))), (8, .int (nI es.length)), (5, .int (nI ez.length)), (6, .ref oa), (1, .ref x0), (4, .int (nI bu)), (0, .ref b)]) rfl ?_
          refine g_goto C dL_law_424 (tgt := 397) (by decide) ?_
          refine g_wid (k0 := (14100 + (i + 1))) (n0 := (111400 + 6 * (i + 1))) (by omega) (by omega) ?_
          exact ih397 (i + 1) (by omega) (by omega)
        · skip
          exact absurd (lg_eq (pre_F hpz h401)) h416


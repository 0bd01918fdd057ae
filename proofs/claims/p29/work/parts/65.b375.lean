set_option maxHeartbeats 4000000 in
set_option maxRecDepth 100000 in
theorem ls_375 {p : Program} {e : Env} {s : State} {m : MethodId} {args : Array Value} {below : List Frame} {meth : Method} {c : Code} {Q : State → Prop} {A : Nat → Prop} (l : Launch) (hfl : l.stackTraces = false) (D : va_G) (ty : g_T3) (C : g_Cx (g_IU A D s) p s m args c code 12 A D ty RL wsL_law) (hA : ∀ q, s.heap.size ≤ q → A q) (hX : g_Xok g_XT ∧ g_XT A s) {b L : Nat} {xs : Nat → Int32} (hsx : va_X b L xs s s.heap) (hbl : b < s.heap.size) (hbA : ¬ A b) (hL : L ≤ 260) (hEnd : ∀ (cells slots : Nat) (lv : g_Lv) (ws : va_W), cells ≤ 600086 → slots ≤ 7301442 → gG (g_IU A D s) p l e room_1 s m args below meth c Q 12 cells slots 604 lv [.int (nI 1)] ws) (x0 s0 sp sa sc k0 kf ko ka kb kt kl kp p0 t0 oa : Nat) (p2 : Nat → Nat) (al : Nat → Bool) (cs : Nat → Bool) (bu : Nat) (es : List Ent) (fF : Nat → Int64) (oF : Nat → Int32) (aF : Nat → Int32) (bF : Nat → Int32) (tF : Nat → Int32) (sF : Nat → Int32) (fo : Nat → Int64) (hp : (∀ k, k < 10 → 1 ≤ p2 k ∧ p2 k ≤ 5) ∧ p2 10 ≤ 5) (hbu : bu ≤ 2) (hw : rowOk es fF oF aF bF sF) (hes : es = (sq p2 al cs bu 8).2) (hfa : ∀ j, j < es.length → fo j = eF es j) : gG (g_IU A D s) p l e room_1 s m args below meth c Q 12 (14090) (111310) 375 [(5, .int (nI es.length)), (6, .ref oa), (1, .ref x0), (4, .int (nI bu)), (0, .ref b)] [] [(x0, .inr (4, [.ref s0, .ref k0, .ref p0, .ref t0])), (s0, .inr (2, [.ref sp, .ref sa, .ref sc])), (sp, .inl (ty.1, 11, .inl (zN p2))), (sa, .inl (ty.2.2, 10, .inl (zB al))), (sc, .inl (ty.2.2, 16, .inl (zB cs))), (k0, .inr (1, [.int (nI es.length), .ref kf, .ref ko, .ref ka, .ref kb, .ref kt, .ref kl, .ref kp])), (kf, .inl (ty.2.1, 2000, .inr (.inl fF))), (ko, .inl (ty.1, 2000, .inl oF)), (ka, .inl (ty.1, 2000, .inl aF)), (kb, .inl (ty.1, 2000, .inl bF)), (kt, .inl (ty.1, 8, .inl tF)), (kl, .inl (ty.1, 4096, .inl sF)), (oa, .inl (ty.2.1, es.length, .inr (.inl fo)))] := by
  have hRc : room_1.cells = 600086 := rfl
  have hRs : room_1.slots = 7301442 := rfl
  have hlen : es.length ≤ 2000 := hw.2.2.2
  refine g_aload_n C dL_law_375 2 rfl rfl ?_
  refine g_iload C dL_law_376 3 rfl ?_
  refine g_iconst C dL_law_378 (v := (nI 1)) (by decide) ?_
  refine g_iadd C dL_law_379 (v := (nI (bu + 1))) (nI_add _ _) ?_
  refine g_callTV C hX (t_X5_search l hfl D ty x0 s0 k0 p0 t0 kf ko ka kb kt kl kp es fF oF aF bF tF sF (fun _ => 0) hw sp sa sc p2 al cs hp (nI (bu + 1))) rfl gL_law_X5_search 1 (by decide +kernel) rfl ⟨rfl, rfl⟩ ⟨Nat.le_of_ble_eq_true rfl, Nat.le_of_ble_eq_true rfl⟩ (rest := []) (q0 := 0) rfl rfl hA [0, 5, 6, 7, 8, 9, 10, 11, 1, 2, 3, 4] [12] rfl rfl rfl (wr := [(oa, .inl (ty.2.1, es.length, .inr (.inl fo)))]) rfl rfl rfl (Nat.le_of_ble_eq_true rfl) dL_law_380 ⟨by rw [hRc]; omega, by rw [hRs]; omega⟩ rfl ?_ (g_kui (fun r380 w hr380 => ?_))
  · intro E q9 hE
    exfalso
    obtain ⟨-, hq⟩ := hE
    rw [nI_toInt (by omega)] at hq
    omega
  · skip
    obtain ⟨k380, hk380, hok380, rfl, fF380, oF380, aF380, bF380, tF380, sF380, hw380, ht380, rfl⟩ := hr380
    obtain rfl : bu + 1 = k380 := nI_ij (by omega) (by omega) hok380
    have hI380 : stI (sq p2 al cs (bu + 1) 8).2 (sq p2 al cs (bu + 1) 8).1 := sq_stI hk380 (fun k hk => (hp.1 k hk).1)
    have hl380 := hI380.2.2.2.2
    refine g_ws (ws' := [(x0, .inr (4, [.ref s0, .ref k0, .ref p0, .ref t0])), (s0, .inr (2, [.ref sp, .ref sa, .ref sc])), (sp, .inl (ty.1, 11, .inl (zN p2))), (sa, .inl (ty.2.2, 10, .inl (zB al))), (sc, .inl (ty.2.2, 16, .inl (zB cs))), (k0, .inr (1, [.int (nI ((sq p2 al cs (bu + 1) 8).2.length)), .ref kf, .ref ko, .ref ka, .ref kb, .ref kt, .ref kl, .ref kp])), (kf, .inl (ty.2.1, 2000, .inr (.inl fF380))), (ko, .inl (ty.1, 2000, .inl oF380)), (ka, .inl (ty.1, 2000, .inl aF380)), (kb, .inl (ty.1, 2000, .inl bF380)), (kt, .inl (ty.1, 8, .inl tF380)), (kl, .inl (ty.1, 4096, .inl sF380)), (oa, .inl (ty.2.1, es.length, .inr (.inl fo)))]) [1, 9, 10, 11, 12, 2, 3, 4, 5, 6, 7, 8, 0] rfl rfl rfl ?_
    refine g_istore C dL_law_383 (by decide) (lv' := [(8, .int (nI ((sq p2 al cs (bu + 1) 8).2.length))), (5, .int (nI es.length)), (6, .ref oa), (1, .ref x0), (4, .int (nI bu)), (0, .ref b)]) rfl ?_
    refine g_iload C dL_law_385 0 rfl ?_
    refine g_iload C dL_law_387 1 rfl ?_
    have hpre : preE es (sq p2 al cs (bu + 1) 8).2 := by rw [hes]; exact next_ok (by omega)
    have hple := hpre.1
    refine g_icmp_geN C dL_law_389 (tgt := 394) (by decide) (by omega) (by omega) (fun h389 => ?_) (fun h389 => ?_)
    · skip
      refine g_iconst C dL_law_394 (v := (nI 0)) (by decide) ?_
      refine g_istore C dL_law_395 (by decide) (lv' := [(9, .int (nI 0)), (8, .int (nI ((sq p2 al cs (bu + 1) 8).2.length))), (5, .int (nI es.length)), (6, .ref oa), (1, .ref x0), (4, .int (nI bu)), (0, .ref b)]) rfl ?_
      refine g_ws (ws' := [(x0, .inr (4, [.ref s0, .ref k0, .ref p0, .ref t0])), (k0, .inr (1, [.int (nI ((sq p2 al cs (bu + 1) 8).2.length)), .ref kf, .ref ko, .ref ka, .ref kb, .ref kt, .ref kl, .ref kp])), (kf, .inl (ty.2.1, 2000, .inr (.inl fF380))), (kt, .inl (ty.1, 8, .inl tF380)), (oa, .inl (ty.2.1, es.length, .inr (.inl fo)))]) [0, 5, 6, 10, 12] rfl rfl rfl ?_
      refine g_wid (k0 := (14100 + 0)) (n0 := (111400 + 6 * 0)) (by omega) (by omega) ?_
      exact ls_397 l hfl D ty C hA hX hsx hbl hbA hL hEnd x0 s0 sp sa sc k0 kf ko ka kb kt kl kp p0 t0 oa bu ((sq p2 al cs (bu + 1) 8).1) es fo ((sq p2 al cs (bu + 1) 8).2) fF380 oF380 aF380 bF380 tF380 sF380 hbu hw380 ht380 hI380 (fun i hi => cost_le hk380 (fun k hk => (hp.1 k hk).1) hi) hfa hpre hlen (es.length - 0 + 1) 0 (Nat.lt_succ_self _) (Nat.zero_le _)
    · skip
      exact absurd h389 (by omega)


abbrev rm_t_X6_search : Room := ({ frames := 4, cells := 0, slots := 0, locals := 96 } : Room)
set_option maxHeartbeats 4000000 in
set_option maxRecDepth 100000 in
theorem t_X6_search (l : Launch) (D : va_G) (ty : g_T3) (n0 np na nc nf nq no nx ny nl nh nb nw nt : Nat) (th pl tl av wr : Int32) (rs : Int64) (p2 : Nat → Nat) (al cs : Nat → Bool) (hp : (∀ k, k < 10 → 1 ≤ p2 k ∧ p2 k ≤ 5) ∧ p2 10 ≤ 5) (gM : Nat → Int32) (es : List Ent) (fM : Nat → Int64) (qM oM aM bM lM hM : Nat → Int32) (hw : modOk es fM qM oM aM bM lM hM) (bg : Int32) : g_U l yX6_search wsX6_search rm_t_X6_search D ty g_X0 [.ref n0, .int bg] [(n0, .inr (5, [.int th, .ref np, .ref na, .int (nI (p2 10)), .ref nc, .int (nI es.length), .ref nf, .ref nq, .ref no, .ref nx, .ref ny, .ref nl, .ref nh, .ref nb, .ref nw, .int pl, .ref nt, .int tl, .int av, .int wr, .long rs])), (np, .inl (ty.1, 10, .inl (zN p2))), (na, .inl (ty.2.2, 10, .inl (zB al))), (nc, .inl (ty.2.2, 16, .inl (zB cs))), (nf, .inl (ty.2.1, 2000, .inr (.inl fM))), (nq, .inl (ty.1, 2000, .inl qM)), (no, .inl (ty.1, 2000, .inl oM)), (nx, .inl (ty.1, 2000, .inl aM)), (ny, .inl (ty.1, 2000, .inl bM)), (nl, .inl (ty.1, 1024, .inl lM)), (nh, .inl (ty.1, 2000, .inl hM)), (nb, .inl (ty.1, 8, .inl gM))] 0 0 (g_ui (fun r w => (∃ bn, bn ≤ 6 ∧ bg = nI bn ∧ r = nI (sq p2 al cs bn 8).2.length ∧ ∃ (fM2 : Nat → Int64) (qM2 oM2 aM2 bM2 lM2 hM2 gM2 : Nat → Int32), modOk (sq p2 al cs bn 8).2 fM2 qM2 oM2 aM2 bM2 lM2 hM2 ∧ w = [(n0, .inr (5, [.int (nI 0), .ref np, .ref na, .int (nI (p2 10)), .ref nc, .int (nI ((sq p2 al cs bn 8).2.length)), .ref nf, .ref nq, .ref no, .ref nx, .ref ny, .ref nl, .ref nh, .ref nb, .ref nw, .int pl, .ref nt, .int tl, .int av, .int wr, .long rs])), (np, .inl (ty.1, 10, .inl (zN p2))), (na, .inl (ty.2.2, 10, .inl (zB al))), (nc, .inl (ty.2.2, 16, .inl (zB cs))), (nf, .inl (ty.2.1, 2000, .inr (.inl fM2))), (nq, .inl (ty.1, 2000, .inl qM2)), (no, .inl (ty.1, 2000, .inl oM2)), (nx, .inl (ty.1, 2000, .inl aM2)), (ny, .inl (ty.1, 2000, .inl bM2)), (nl, .inl (ty.1, 1024, .inl lM2)), (nh, .inl (ty.1, 2000, .inl hM2)), (nb, .inl (ty.1, 8, .inl gM2))]) ∨ ((bg.toInt < 0 ∨ 6 < bg.toInt) ∧ r = nI 0 ∧ w = [(n0, .inr (5, [.int (nI 1), .ref np, .ref na, .int (nI (p2 10)), .ref nc, .int (nI es.length), .ref nf, .ref nq, .ref no, .ref nx, .ref ny, .ref nl, .ref nh, .ref nb, .ref nw, .int pl, .ref nt, .int tl, .int av, .int wr, .long rs])), (np, .inl (ty.1, 10, .inl (zN p2))), (na, .inl (ty.2.2, 10, .inl (zB al))), (nc, .inl (ty.2.2, 16, .inl (zB cs))), (nf, .inl (ty.2.1, 2000, .inr (.inl fM))), (nq, .inl (ty.1, 2000, .inl qM)), (no, .inl (ty.1, 2000, .inl oM)), (nx, .inl (ty.1, 2000, .inl aM)), (ny, .inl (ty.1, 2000, .inl bM)), (nl, .inl (ty.1, 1024, .inl lM)), (nh, .inl (ty.1, 2000, .inl hM)), (nb, .inl (ty.1, 8, .inl gM))]))) := by
  refine g_ofUi (cc := cX6_search) (nL := 4) (own := RX6) (by decide) rfl rfl g_X0_ok (Nat.le_of_ble_eq_true rfl) ?_
  intro p e s m args below meth c Q A C hA hX hin hR
  refine g_lv (lv' := [(0, .ref n0), (1, .int bg)]) [0, 1] rfl ?_
  refine g_aload_n C dX6_search_0 0 rfl rfl ?_
  refine g_iconst C dX6_search_1 (v := (nI 0)) (by decide) ?_
  refine g_put C 0 rfl rfl 0 (by decide) (fun _ h => (List.mem_cons_of_mem _ (List.mem_append_right _ h))) 1 rfl rfl tyX6 tyX6_ok nmX6 rfl rfl rfl rfl (Nat.le_of_ble_eq_true rfl) (ws' := [(n0, .inr (5, [.int (nI 0), .ref np, .ref na, .int (nI (p2 10)), .ref nc, .int (nI es.length), .ref nf, .ref nq, .ref no, .ref nx, .ref ny, .ref nl, .ref nh, .ref nb, .ref nw, .int pl, .ref nt, .int tl, .int av, .int wr, .long rs])), (np, .inl (ty.1, 10, .inl (zN p2))), (na, .inl (ty.2.2, 10, .inl (zB al))), (nc, .inl (ty.2.2, 16, .inl (zB cs))), (nf, .inl (ty.2.1, 2000, .inr (.inl fM))), (nq, .inl (ty.1, 2000, .inl qM)), (no, .inl (ty.1, 2000, .inl oM)), (nx, .inl (ty.1, 2000, .inl aM)), (ny, .inl (ty.1, 2000, .inl bM)), (nl, .inl (ty.1, 1024, .inl lM)), (nh, .inl (ty.1, 2000, .inl hM)), (nb, .inl (ty.1, 8, .inl gM))]) rfl dX6_search_2 ?_
  refine g_iload_n C dX6_search_5 1 rfl rfl ?_
  refine g_iconst C dX6_search_6 (v := (nI 0)) (by decide) ?_
  refine g_bipush C dX6_search_7 (v := (nI 6)) (by decide) ?_
  refine g_callPS C ⟨g_X0_ok, trivial⟩ (t_X6_isIn l D ty bg (nI 0) (nI 6)) rfl gX6_search_X6_isIn 3 (by decide +kernel) rfl ⟨rfl, rfl⟩ ⟨Nat.le_of_ble_eq_true rfl, Nat.le_of_ble_eq_true rfl⟩ (rest := []) [] rfl (Nat.le_of_ble_eq_true rfl) dX6_search_9 ⟨Nat.le_of_ble_eq_true rfl, Nat.le_of_ble_eq_true rfl⟩ rfl (g_ki (fun r hr => ?_))
  subst hr
  have := bt_lt (inB bg (nI 0) (nI 6))
  refine g_if_neN C dX6_search_12 (tgt := 21) (by decide) (by omega) (fun h12 => ?_) (fun h12 => ?_)
  · skip
    obtain ⟨bn, hbn, rfl⟩ := in_nI (by decide) h12
    refine g_aload_n C dX6_search_21 0 rfl rfl ?_
    refine g_iconst C dX6_search_22 (v := (nI 0)) (by decide) ?_
    refine g_put C 0 rfl rfl 5 (by decide) (fun _ h => (List.mem_cons_of_mem _ (List.mem_append_right _ h))) 2 rfl rfl tyX6 tyX6_ok nmX6 rfl rfl rfl rfl (Nat.le_of_ble_eq_true rfl) (ws' := [(n0, .inr (5, [.int (nI 0), .ref np, .ref na, .int (nI (p2 10)), .ref nc, .int (nI 0), .ref nf, .ref nq, .ref no, .ref nx, .ref ny, .ref nl, .ref nh, .ref nb, .ref nw, .int pl, .ref nt, .int tl, .int av, .int wr, .long rs])), (np, .inl (ty.1, 10, .inl (zN p2))), (na, .inl (ty.2.2, 10, .inl (zB al))), (nc, .inl (ty.2.2, 16, .inl (zB cs))), (nf, .inl (ty.2.1, 2000, .inr (.inl fM))), (nq, .inl (ty.1, 2000, .inl qM)), (no, .inl (ty.1, 2000, .inl oM)), (nx, .inl (ty.1, 2000, .inl aM)), (ny, .inl (ty.1, 2000, .inl bM)), (nl, .inl (ty.1, 1024, .inl lM)), (nh, .inl (ty.1, 2000, .inl hM)), (nb, .inl (ty.1, 8, .inl gM))]) rfl dX6_search_23 ?_
    refine g_iconst C dX6_search_26 (v := (nI 0)) (by decide) ?_
    refine g_istore_n C dX6_search_27 rfl (by decide) (lv' := [(2, .int (nI 0)), (0, .ref n0), (1, .int (nI bn))]) rfl ?_
    have L28 : ∀ (n9 : Nat) (i : Nat) (lM9 : Nat → Int32), 1024 - i < n9 → (i ≤ 1024) → (∀ k, k < i → lM9 k = 0) → gG (g_IU A D s) p l e rm_t_X6_search s m args below meth c Q 4 0 0 28 [(2, .int (nI i)), (0, .ref n0), (1, .int (nI bn))] [] [(n0, .inr (5, [.int (nI 0), .ref np, .ref na, .int (nI (p2 10)), .ref nc, .int (nI 0), .ref nf, .ref nq, .ref no, .ref nx, .ref ny, .ref nl, .ref nh, .ref nb, .ref nw, .int pl, .ref nt, .int tl, .int av, .int wr, .long rs])), (np, .inl (ty.1, 10, .inl (zN p2))), (na, .inl (ty.2.2, 10, .inl (zB al))), (nc, .inl (ty.2.2, 16, .inl (zB cs))), (nf, .inl (ty.2.1, 2000, .inr (.inl fM))), (nq, .inl (ty.1, 2000, .inl qM)), (no, .inl (ty.1, 2000, .inl oM)), (nx, .inl (ty.1, 2000, .inl aM)), (ny, .inl (ty.1, 2000, .inl bM)), (nl, .inl (ty.1, 1024, .inl lM9)), (nh, .inl (ty.1, 2000, .inl hM)), (nb, .inl (ty.1, 8, .inl gM))] := by
      intro n9
      induction n9 with
      | zero => intro i lM9 hn; exact absurd hn (Nat.not_lt_zero _)
      | succ n9 ih28 =>
        intro i lM9 hn28 hi hf
        refine g_iload_n C dX6_search_28 0 rfl rfl ?_
        refine g_sipush C dX6_search_29 (v := (nI 1024)) (by decide) ?_
        refine g_icmp_geN C dX6_search_32 (tgt := 48) (by decide) (by omega) (by omega) (fun h32 => ?_) (fun h32 => ?_)
        · skip
          have hi0 : i = 1024 := by omega
          refine g_iconst C dX6_search_48 (v := (nI 0)) (by decide) ?_
          refine g_istore_n C dX6_search_49 rfl (by decide) (lv' := [(2, .int (nI 0)), (0, .ref n0), (1, .int (nI bn))]) rfl ?_
          have L50 : ∀ (n9 : Nat) (cq : Nat) (fM1 : Nat → Int64) (qM1 oM1 aM1 bM1 lM1 hM1 gM1 : Nat → Int32), bn + 1 - cq < n9 → (cq ≤ bn + 1) → (modOk (sq p2 al cs bn cq).2 fM1 qM1 oM1 aM1 bM1 lM1 hM1) → (∀ j, j < cq → gM1 j = nI ((sq p2 al cs bn cq).1 j)) → gG (g_IU A D s) p l e rm_t_X6_search s m args below meth c Q 4 0 0 50 [(2, .int (nI cq)), (0, .ref n0), (1, .int (nI bn))] [] [(n0, .inr (5, [.int (nI 0), .ref np, .ref na, .int (nI (p2 10)), .ref nc, .int (nI ((sq p2 al cs bn cq).2.length)), .ref nf, .ref nq, .ref no, .ref nx, .ref ny, .ref nl, .ref nh, .ref nb, .ref nw, .int pl, .ref nt, .int tl, .int av, .int wr, .long rs])), (np, .inl (ty.1, 10, .inl (zN p2))), (na, .inl (ty.2.2, 10, .inl (zB al))), (nc, .inl (ty.2.2, 16, .inl (zB cs))), (nf, .inl (ty.2.1, 2000, .inr (.inl fM1))), (nq, .inl (ty.1, 2000, .inl qM1)), (no, .inl (ty.1, 2000, .inl oM1)), (nx, .inl (ty.1, 2000, .inl aM1)), (ny, .inl (ty.1, 2000, .inl bM1)), (nl, .inl (ty.1, 1024, .inl lM1)), (nh, .inl (ty.1, 2000, .inl hM1)), (nb, .inl (ty.1, 8, .inl gM1))] := by
            intro n9
            induction n9 with
            | zero => intro cq fM1 qM1 oM1 aM1 bM1 lM1 hM1 gM1 hn; exact absurd hn (Nat.not_lt_zero _)
            | succ n9 ih50 =>
              intro cq fM1 qM1 oM1 aM1 bM1 lM1 hM1 gM1 hn50 hc hw1 ht
              have hl1b := hw1.2.2.2.2
              refine g_iload_n C dX6_search_50 0 rfl rfl ?_
              refine g_iload_n C dX6_search_51 2 rfl rfl ?_
              refine g_icmp_gtN C dX6_search_52 (tgt := 181) (by decide) (by omega) (by omega) (fun h52 => ?_) (fun h52 => ?_)
              · skip
                obtain rfl : cq = bn + 1 := by omega
                rw [sq_8 hbn] at hw1
                refine g_is (ws2 := [(n0, .inr (5, [.int (nI 0), .ref np, .ref na, .int (nI (p2 10)), .ref nc, .int (nI ((sq p2 al cs bn 8).2.length)), .ref nf, .ref nq, .ref no, .ref nx, .ref ny, .ref nl, .ref nh, .ref nb, .ref nw, .int pl, .ref nt, .int tl, .int av, .int wr, .long rs])), (np, .inl (ty.1, 10, .inl (zN p2))), (na, .inl (ty.2.2, 10, .inl (zB al))), (nc, .inl (ty.2.2, 16, .inl (zB cs))), (nf, .inl (ty.2.1, 2000, .inr (.inl fM1))), (nq, .inl (ty.1, 2000, .inl qM1)), (no, .inl (ty.1, 2000, .inl oM1)), (nx, .inl (ty.1, 2000, .inl aM1)), (ny, .inl (ty.1, 2000, .inl bM1)), (nl, .inl (ty.1, 1024, .inl lM1)), (nh, .inl (ty.1, 2000, .inl hM1)), (nb, .inl (ty.1, 8, .inl gM1))]) ?_ rfl rfl rfl (by rw [sq_8 hbn])
                refine g_aload_n C dX6_search_181 1 rfl rfl ?_
                refine g_get C 0 rfl rfl 5 (by decide) (fun _ h => (List.mem_cons_of_mem _ (List.mem_append_right _ h))) 2 rfl rfl rfl dX6_search_182 ?_
                refine hR _ _ _ _ _ _ dX6_search_185 ?_ (by omega) (by omega)
                exact Or.inl ⟨bn, hbn, rfl, rfl, _, _, _, _, _, _, _, _, hw1, rfl⟩
              · skip
                have hs : stOk (sq p2 al cs bn (cq + 1)).1 (upd gM1 cq (nI (sq p2 al cs bn cq).2.length)) cq (sq p2 al cs bn cq).2.length := sq_ok (by omega) ht
                have hp10 := hp.2
                refine g_aload_n C dX6_search_55 1 rfl rfl ?_
                refine g_get C 0 rfl rfl 13 (by decide) (fun _ h => (List.mem_cons_of_mem _ (List.mem_append_right _ h))) 4 rfl rfl rfl dX6_search_56 ?_
                refine g_iload_n C dX6_search_59 0 rfl rfl ?_
                refine g_aload_n C dX6_search_60 1 rfl rfl ?_
                refine g_get C 0 rfl rfl 5 (by decide) (fun _ h => (List.mem_cons_of_mem _ (List.mem_append_right _ h))) 2 rfl rfl rfl dX6_search_61 ?_
                refine g_iast C 11 rfl (by omega) (by omega) (f' := upd gM1 cq (nI ((sq p2 al cs bn cq).2.length))) rfl (ws' := [(n0, .inr (5, [.int (nI 0), .ref np, .ref na, .int (nI (p2 10)), .ref nc, .int (nI ((sq p2 al cs bn cq).2.length)), .ref nf, .ref nq, .ref no, .ref nx, .ref ny, .ref nl, .ref nh, .ref nb, .ref nw, .int pl, .ref nt, .int tl, .int av, .int wr, .long rs])), (np, .inl (ty.1, 10, .inl (zN p2))), (na, .inl (ty.2.2, 10, .inl (zB al))), (nc, .inl (ty.2.2, 16, .inl (zB cs))), (nf, .inl (ty.2.1, 2000, .inr (.inl fM1))), (nq, .inl (ty.1, 2000, .inl qM1)), (no, .inl (ty.1, 2000, .inl oM1)), (nx, .inl (ty.1, 2000, .inl aM1)), (ny, .inl (ty.1, 2000, .inl bM1)), (nl, .inl (ty.1, 1024, .inl lM1)), (nh, .inl (ty.1, 2000, .inl hM1)), (nb, .inl (ty.1, 8, .inl (upd gM1 cq (nI ((sq p2 al cs bn cq).2.length)))))]) rfl dX6_search_64 ?_
                refine g_iload_n C dX6_search_65 0 rfl rfl ?_
                refine g_if_neN C dX6_search_66 (tgt := 80) (by decide) (by omega) (fun h66 => ?_) (fun h66 => ?_)
                · skip
                  have L80 : ∀ (n9 : Nat) (es3 : List Ent) (fM3 : Nat → Int64) (qM3 oM3 aM3 bM3 lM3 hM3 : Nat → Int32), 0 < n9 → (modOk es3 fM3 qM3 oM3 aM3 bM3 lM3 hM3) → ((sq p2 al cs bn cq).2.length ≤ es3.length) → (es3 = mk0 cq (sq p2 al cs bn cq).2) → gG (g_IU A D s) p l e rm_t_X6_search s m args below meth c Q 4 0 0 80 [(2, .int (nI cq)), (0, .ref n0), (1, .int (nI bn))] [] [(n0, .inr (5, [.int (nI 0), .ref np, .ref na, .int (nI (p2 10)), .ref nc, .int (nI es3.length), .ref nf, .ref nq, .ref no, .ref nx, .ref ny, .ref nl, .ref nh, .ref nb, .ref nw, .int pl, .ref nt, .int tl, .int av, .int wr, .long rs])), (np, .inl (ty.1, 10, .inl (zN p2))), (na, .inl (ty.2.2, 10, .inl (zB al))), (nc, .inl (ty.2.2, 16, .inl (zB cs))), (nf, .inl (ty.2.1, 2000, .inr (.inl fM3))), (nq, .inl (ty.1, 2000, .inl qM3)), (no, .inl (ty.1, 2000, .inl oM3)), (nx, .inl (ty.1, 2000, .inl aM3)), (ny, .inl (ty.1, 2000, .inl bM3)), (nl, .inl (ty.1, 1024, .inl lM3)), (nh, .inl (ty.1, 2000, .inl hM3)), (nb, .inl (ty.1, 8, .inl (upd gM1 cq (nI (sq p2 al cs bn cq).2.length))))] := by
                    intro n9
                    induction n9 with
                    | zero => intro es3 fM3 qM3 oM3 aM3 bM3 lM3 hM3 hn; exact absurd hn (Nat.not_lt_zero _)
                    | succ n9 ih80 =>
                      intro es3 fM3 qM3 oM3 aM3 bM3 lM3 hM3 hn80 hw3 hl3 hE1
                      refine g_iconst C dX6_search_80 (v := (nI 0)) (by decide) ?_
                      refine g_istore_n C dX6_search_81 rfl (by decide) (lv' := [(3, .int (nI 0)), (2, .int (nI cq)), (0, .ref n0), (1, .int (nI bn))]) rfl ?_
                      have L82 : ∀ (n9 : Nat) (v : Nat) (es4 : List Ent) (fM4 : Nat → Int64) (qM4 oM4 aM4 bM4 lM4 hM4 : Nat → Int32), 16 - v < n9 → (v ≤ 16) → (modOk es4 fM4 qM4 oM4 aM4 bM4 lM4 hM4) → ((sq p2 al cs bn cq).2.length ≤ es4.length) → ((cq = p2 10 → coN cs cq (16 - v) v es4 = (mk1 p2 cs cq (mk0 cq (sq p2 al cs bn cq).2))) ∧ (¬ cq = p2 10 → es4 = (mk1 p2 cs cq (mk0 cq (sq p2 al cs bn cq).2)))) → gG (g_IU A D s) p l e rm_t_X6_search s m args below meth c Q 4 0 0 82 [(3, .int (nI v)), (2, .int (nI cq)), (0, .ref n0), (1, .int (nI bn))] [] [(n0, .inr (5, [.int (nI 0), .ref np, .ref na, .int (nI (p2 10)), .ref nc, .int (nI es4.length), .ref nf, .ref nq, .ref no, .ref nx, .ref ny, .ref nl, .ref nh, .ref nb, .ref nw, .int pl, .ref nt, .int tl, .int av, .int wr, .long rs])), (np, .inl (ty.1, 10, .inl (zN p2))), (na, .inl (ty.2.2, 10, .inl (zB al))), (nc, .inl (ty.2.2, 16, .inl (zB cs))), (nf, .inl (ty.2.1, 2000, .inr (.inl fM4))), (nq, .inl (ty.1, 2000, .inl qM4)), (no, .inl (ty.1, 2000, .inl oM4)), (nx, .inl (ty.1, 2000, .inl aM4)), (ny, .inl (ty.1, 2000, .inl bM4)), (nl, .inl (ty.1, 1024, .inl lM4)), (nh, .inl (ty.1, 2000, .inl hM4)), (nb, .inl (ty.1, 8, .inl (upd gM1 cq (nI (sq p2 al cs bn cq).2.length))))] := by
                        intro n9
                        induction n9 with
                        | zero => intro v es4 fM4 qM4 oM4 aM4 bM4 lM4 hM4 hn; exact absurd hn (Nat.not_lt_zero _)
                        | succ n9 ih82 =>
                          intro v es4 fM4 qM4 oM4 aM4 bM4 lM4 hM4 hn82 hv hw4 hl4 hT1
                          have hbt := bt_lt (cs v)
                          refine g_iload_n C dX6_search_82 0 rfl rfl ?_
                          refine g_bipush C dX6_search_83 (v := (nI 16)) (by decide) ?_
                          refine g_icmp_geN C dX6_search_85 (tgt := 124) (by decide) (by omega) (by omega) (fun h85 => ?_) (fun h85 => ?_)
                          · skip
                            have hE3 : es4 = (mk1 p2 cs cq (mk0 cq (sq p2 al cs bn cq).2)) := by
                              by_cases q : cq = p2 10
                              · rw [← hT1.1 q, show 16 - v = 0 by omega]; rfl
                              · exact hT1.2 q
                            refine g_iconst C dX6_search_124 (v := (nI 0)) (by decide) ?_
                            refine g_istore_n C dX6_search_125 rfl (by decide) (lv' := [(3, .int (nI 0)), (2, .int (nI cq)), (0, .ref n0), (1, .int (nI bn))]) rfl ?_
                            have L126 : ∀ (n9 : Nat) (op : Nat) (es5 : List Ent) (fM5 : Nat → Int64) (qM5 oM5 aM5 bM5 lM5 hM5 : Nat → Int32), 10 - op < n9 → (op ≤ 10) → (modOk es5 fM5 qM5 oM5 aM5 bM5 lM5 hM5) → ((sq p2 al cs bn cq).2.length ≤ es5.length) → (opsN p2 al (sq p2 al cs bn (cq + 1)).1 cq (10 - op) op es5 = mkC p2 al cs (sq p2 al cs bn (cq + 1)).1 cq (sq p2 al cs bn cq).2) → gG (g_IU A D s) p l e rm_t_X6_search s m args below meth c Q 4 0 0 126 [(3, .int (nI op)), (2, .int (nI cq)), (0, .ref n0), (1, .int (nI bn))] [] [(n0, .inr (5, [.int (nI 0), .ref np, .ref na, .int (nI (p2 10)), .ref nc, .int (nI es5.length), .ref nf, .ref nq, .ref no, .ref nx, .ref ny, .ref nl, .ref nh, .ref nb, .ref nw, .int pl, .ref nt, .int tl, .int av, .int wr, .long rs])), (np, .inl (ty.1, 10, .inl (zN p2))), (na, .inl (ty.2.2, 10, .inl (zB al))), (nc, .inl (ty.2.2, 16, .inl (zB cs))), (nf, .inl (ty.2.1, 2000, .inr (.inl fM5))), (nq, .inl (ty.1, 2000, .inl qM5)), (no, .inl (ty.1, 2000, .inl oM5)), (nx, .inl (ty.1, 2000, .inl aM5)), (ny, .inl (ty.1, 2000, .inl bM5)), (nl, .inl (ty.1, 1024, .inl lM5)), (nh, .inl (ty.1, 2000, .inl hM5)), (nb, .inl (ty.1, 8, .inl (upd gM1 cq (nI (sq p2 al cs bn cq).2.length))))] := by
                              intro n9
                              induction n9 with
                              | zero => intro op es5 fM5 qM5 oM5 aM5 bM5 lM5 hM5 hn; exact absurd hn (Nat.not_lt_zero _)
                              | succ n9 ih126 =>
                                intro op es5 fM5 qM5 oM5 aM5 bM5 lM5 hM5 hn126 ho hw5 hl5 hT2
                                have hl5b := hw5.2.2.2.2
                                have hbt := bt_lt (al op)
                                refine g_iload_n C dX6_search_126 0 rfl rfl ?_
                                refine g_bipush C dX6_search_127 (v := (nI 10)) (by decide) ?_
                                refine g_icmp_geN C dX6_search_129 (tgt := 163) (by decide) (by omega) (by omega) (fun h129 => ?_) (fun h129 => ?_)
                                · skip
                                  have hwN : modOk (sq p2 al cs bn (cq + 1)).2 fM5 qM5 oM5 aM5 bM5 lM5 hM5 := by rw [sq_in (show cq ≤ bn by omega), ← hT2, show 10 - op = 0 by omega]; exact hw5
                                  have hE5 : es5 = (sq p2 al cs bn (cq + 1)).2 := by rw [sq_in (show cq ≤ bn by omega), ← hT2, show 10 - op = 0 by omega]; rfl
                                  refine g_is (ws2 := [(n0, .inr (5, [.int (nI 0), .ref np, .ref na, .int (nI (p2 10)), .ref nc, .int (nI ((sq p2 al cs bn (cq + 1)).2.length)), .ref nf, .ref nq, .ref no, .ref nx, .ref ny, .ref nl, .ref nh, .ref nb, .ref nw, .int pl, .ref nt, .int tl, .int av, .int wr, .long rs])), (np, .inl (ty.1, 10, .inl (zN p2))), (na, .inl (ty.2.2, 10, .inl (zB al))), (nc, .inl (ty.2.2, 16, .inl (zB cs))), (nf, .inl (ty.2.1, 2000, .inr (.inl fM5))), (nq, .inl (ty.1, 2000, .inl qM5)), (no, .inl (ty.1, 2000, .inl oM5)), (nx, .inl (ty.1, 2000, .inl aM5)), (ny, .inl (ty.1, 2000, .inl bM5)), (nl, .inl (ty.1, 1024, .inl lM5)), (nh, .inl (ty.1, 2000, .inl hM5)), (nb, .inl (ty.1, 8, .inl (upd gM1 cq (nI (sq p2 al cs bn cq).2.length))))]) ?_ rfl rfl rfl (by rw [hE5])
                                  refine g_aload_n C dX6_search_163 2 rfl rfl ?_
                                  refine g_get C 0 rfl rfl 13 (by decide) (fun _ h => (List.mem_cons_of_mem _ (List.mem_append_right _ h))) 4 rfl rfl rfl dX6_search_164 ?_
                                  refine g_iload_n C dX6_search_167 1 rfl rfl ?_
                                  refine g_iconst C dX6_search_168 (v := (nI 1)) (by decide) ?_
                                  refine g_iadd C dX6_search_169 (v := (nI (cq + 1))) (nI_add _ _) ?_
                                  refine g_aload_n C dX6_search_170 2 rfl rfl ?_
                                  refine g_get C 0 rfl rfl 5 (by decide) (fun _ h => (List.mem_cons_of_mem _ (List.mem_append_right _ h))) 2 rfl rfl rfl dX6_search_171 ?_
                                  refine g_iast C 11 rfl (by omega) (by omega) (f' := upd (upd gM1 cq (nI (sq p2 al cs bn cq).2.length)) (cq + 1) (nI ((sq p2 al cs bn (cq + 1)).2.length))) rfl (ws' := [(n0, .inr (5, [.int (nI 0), .ref np, .ref na, .int (nI (p2 10)), .ref nc, .int (nI ((sq p2 al cs bn (cq + 1)).2.length)), .ref nf, .ref nq, .ref no, .ref nx, .ref ny, .ref nl, .ref nh, .ref nb, .ref nw, .int pl, .ref nt, .int tl, .int av, .int wr, .long rs])), (np, .inl (ty.1, 10, .inl (zN p2))), (na, .inl (ty.2.2, 10, .inl (zB al))), (nc, .inl (ty.2.2, 16, .inl (zB cs))), (nf, .inl (ty.2.1, 2000, .inr (.inl fM5))), (nq, .inl (ty.1, 2000, .inl qM5)), (no, .inl (ty.1, 2000, .inl oM5)), (nx, .inl (ty.1, 2000, .inl aM5)), (ny, .inl (ty.1, 2000, .inl bM5)), (nl, .inl (ty.1, 1024, .inl lM5)), (nh, .inl (ty.1, 2000, .inl hM5)), (nb, .inl (ty.1, 8, .inl (upd (upd gM1 cq (nI (sq p2 al cs bn cq).2.length)) (cq + 1) (nI ((sq p2 al cs bn (cq + 1)).2.length)))))]) rfl dX6_search_174 ?_
                                  refine g_iinc C dX6_search_175 1 rfl (v := (nI (cq + 1))) (nI_1 cq) (by decide) (lv' := [(2, .int (nI (cq + 1))), (3, .int (nI op)), (0, .ref n0), (1, .int (nI bn))]) rfl ?_
                                  refine g_goto C dX6_search_178 (tgt := 50) (by decide) ?_
                                  refine g_lv [0, 2, 3] rfl ?_
                                  exact ih50 (cq + 1) fM5 qM5 oM5 aM5 bM5 lM5 hM5 (upd (upd gM1 cq (nI (sq p2 al cs bn cq).2.length)) (cq + 1) (nI ((sq p2 al cs bn (cq + 1)).2.length))) (by omega) (by omega) hwN (fun j hj => by by_cases q : j = cq; subst q; rw [pk_un (by omega), pk_us, sq_st]; rw [pk_un (by omega), pk_un q, sq_st_ne q]; exact ht j (by omega))
                                · skip
                                  have hpo := hp.1 op (by omega)
                                  refine g_aload_n C dX6_search_132 2 rfl rfl ?_
                                  refine g_get C 0 rfl rfl 2 (by decide) (fun _ h => (List.mem_cons_of_mem _ (List.mem_append_right _ h))) 8 rfl rfl rfl dX6_search_133 ?_
                                  refine g_iload_n C dX6_search_136 0 rfl rfl ?_
                                  refine g_zald C (v := (nI ((al op).toNat))) 2 rfl (by omega) (by omega) rfl dX6_search_137 ?_
                                  refine g_if_eqN C dX6_search_138 (tgt := 157) (by decide) (by omega) (fun h138 => ?_) (fun h138 => ?_)
                                  · skip
                                    have L157 : ∀ (n9 : Nat) (es6 : List Ent) (fM6 : Nat → Int64) (qM6 oM6 aM6 bM6 lM6 hM6 : Nat → Int32), 0 < n9 → (modOk es6 fM6 qM6 oM6 aM6 bM6 lM6 hM6) → ((sq p2 al cs bn cq).2.length ≤ es6.length) → (opsN p2 al (sq p2 al cs bn (cq + 1)).1 cq (10 - (op + 1)) (op + 1) es6 = mkC p2 al cs (sq p2 al cs bn (cq + 1)).1 cq (sq p2 al cs bn cq).2) → gG (g_IU A D s) p l e rm_t_X6_search s m args below meth c Q 4 0 0 157 [(3, .int (nI op)), (2, .int (nI cq)), (0, .ref n0), (1, .int (nI bn))] [] [(n0, .inr (5, [.int (nI 0), .ref np, .ref na, .int (nI (p2 10)), .ref nc, .int (nI es6.length), .ref nf, .ref nq, .ref no, .ref nx, .ref ny, .ref nl, .ref nh, .ref nb, .ref nw, .int pl, .ref nt, .int tl, .int av, .int wr, .long rs])), (np, .inl (ty.1, 10, .inl (zN p2))), (na, .inl (ty.2.2, 10, .inl (zB al))), (nc, .inl (ty.2.2, 16, .inl (zB cs))), (nf, .inl (ty.2.1, 2000, .inr (.inl fM6))), (nq, .inl (ty.1, 2000, .inl qM6)), (no, .inl (ty.1, 2000, .inl oM6)), (nx, .inl (ty.1, 2000, .inl aM6)), (ny, .inl (ty.1, 2000, .inl bM6)), (nl, .inl (ty.1, 1024, .inl lM6)), (nh, .inl (ty.1, 2000, .inl hM6)), (nb, .inl (ty.1, 8, .inl (upd gM1 cq (nI (sq p2 al cs bn cq).2.length))))] := by
                                      intro n9
                                      induction n9 with
                                      | zero => intro es6 fM6 qM6 oM6 aM6 bM6 lM6 hM6 hn; exact absurd hn (Nat.not_lt_zero _)
                                      | succ n9 ih157 =>
                                        intro es6 fM6 qM6 oM6 aM6 bM6 lM6 hM6 hn157 hw6 hl6 hT6
                                        refine g_iinc C dX6_search_157 0 rfl (v := (nI (op + 1))) (nI_1 op) (by decide) (lv' := [(3, .int (nI (op + 1))), (2, .int (nI cq)), (0, .ref n0), (1, .int (nI bn))]) rfl ?_
                                        refine g_goto C dX6_search_160 (tgt := 126) (by decide) ?_
                                        exact ih126 (op + 1) es6 fM6 qM6 oM6 aM6 bM6 lM6 hM6 (by omega) (by omega) hw6 hl6 hT6
                                    exact L157 _ es5 fM5 qM5 oM5 aM5 bM5 lM5 hM5 (Nat.lt_succ_self _) hw5 (by omega) (by rw [show 10 - op = (10 - (op + 1)) + 1 by omega] at hT2; rw [← hT2]; first | rfl | exact congrArg (opsN p2 al (sq p2 al cs bn (cq + 1)).1 cq (10 - (op + 1)) (op + 1)) (opN_no (fun q => absurd q.1 (b_f h138))).symm | exact congrArg (opsN p2 al (sq p2 al cs bn (cq + 1)).1 cq (10 - (op + 1)) (op + 1)) (opN_no (fun q => by omega)).symm)
                                  · skip
                                    refine g_aload_n C dX6_search_141 2 rfl rfl ?_
                                    refine g_get C 0 rfl rfl 1 (by decide) (fun _ h => (List.mem_cons_of_mem _ (List.mem_append_right _ h))) 9 rfl rfl rfl dX6_search_142 ?_
                                    refine g_iload_n C dX6_search_145 0 rfl rfl ?_
                                    refine g_iald C (v := (nI (p2 op))) 1 rfl (by omega) (by omega) rfl dX6_search_146 ?_
                                    refine g_iload_n C dX6_search_147 1 rfl rfl ?_
                                    refine g_icmp_gtN C dX6_search_148 (tgt := 157) (by decide) (by omega) (by omega) (fun h148 => ?_) (fun h148 => ?_)
                                    · skip
                                      have L157 : ∀ (n9 : Nat) (es6 : List Ent) (fM6 : Nat → Int64) (qM6 oM6 aM6 bM6 lM6 hM6 : Nat → Int32), 0 < n9 → (modOk es6 fM6 qM6 oM6 aM6 bM6 lM6 hM6) → ((sq p2 al cs bn cq).2.length ≤ es6.length) → (opsN p2 al (sq p2 al cs bn (cq + 1)).1 cq (10 - (op + 1)) (op + 1) es6 = mkC p2 al cs (sq p2 al cs bn (cq + 1)).1 cq (sq p2 al cs bn cq).2) → gG (g_IU A D s) p l e rm_t_X6_search s m args below meth c Q 4 0 0 157 [(3, .int (nI op)), (2, .int (nI cq)), (0, .ref n0), (1, .int (nI bn))] [] [(n0, .inr (5, [.int (nI 0), .ref np, .ref na, .int (nI (p2 10)), .ref nc, .int (nI es6.length), .ref nf, .ref nq, .ref no, .ref nx, .ref ny, .ref nl, .ref nh, .ref nb, .ref nw, .int pl, .ref nt, .int tl, .int av, .int wr, .long rs])), (np, .inl (ty.1, 10, .inl (zN p2))), (na, .inl (ty.2.2, 10, .inl (zB al))), (nc, .inl (ty.2.2, 16, .inl (zB cs))), (nf, .inl (ty.2.1, 2000, .inr (.inl fM6))), (nq, .inl (ty.1, 2000, .inl qM6)), (no, .inl (ty.1, 2000, .inl oM6)), (nx, .inl (ty.1, 2000, .inl aM6)), (ny, .inl (ty.1, 2000, .inl bM6)), (nl, .inl (ty.1, 1024, .inl lM6)), (nh, .inl (ty.1, 2000, .inl hM6)), (nb, .inl (ty.1, 8, .inl (upd gM1 cq (nI (sq p2 al cs bn cq).2.length))))] := by
                                        intro n9
                                        induction n9 with
                                        | zero => intro es6 fM6 qM6 oM6 aM6 bM6 lM6 hM6 hn; exact absurd hn (Nat.not_lt_zero _)
                                        | succ n9 ih157 =>
                                          intro es6 fM6 qM6 oM6 aM6 bM6 lM6 hM6 hn157 hw6 hl6 hT6
                                          refine g_iinc C dX6_search_157 0 rfl (v := (nI (op + 1))) (nI_1 op) (by decide) (lv' := [(3, .int (nI (op + 1))), (2, .int (nI cq)), (0, .ref n0), (1, .int (nI bn))]) rfl ?_
                                          refine g_goto C dX6_search_160 (tgt := 126) (by decide) ?_
                                          exact ih126 (op + 1) es6 fM6 qM6 oM6 aM6 bM6 lM6 hM6 (by omega) (by omega) hw6 hl6 hT6
                                      exact L157 _ es5 fM5 qM5 oM5 aM5 bM5 lM5 hM5 (Nat.lt_succ_self _) hw5 (by omega) (by rw [show 10 - op = (10 - (op + 1)) + 1 by omega] at hT2; rw [← hT2]; first | rfl | exact congrArg (opsN p2 al (sq p2 al cs bn (cq + 1)).1 cq (10 - (op + 1)) (op + 1)) (opN_no (fun q => absurd q.1 (b_f h138))).symm | exact congrArg (opsN p2 al (sq p2 al cs bn (cq + 1)).1 cq (10 - (op + 1)) (op + 1)) (opN_no (fun q => by omega)).symm)
                                    · skip
                                      refine g_aload_n C dX6_search_151 2 rfl rfl ?_
                                      refine g_iload_n C dX6_search_152 1 rfl rfl ?_
                                      refine g_iload_n C dX6_search_153 0 rfl rfl ?_
                                      refine g_callUV C ⟨g_X0_ok, trivial⟩ (t_X6_addAll l D ty n0 np na nc nf nq no nx ny nl nh nb nw nt (nI 0) (nI (p2 10)) pl tl av wr rs p2 (upd gM1 cq (nI (sq p2 al cs bn cq).2.length)) es5 fM5 qM5 oM5 aM5 bM5 lM5 hM5 hw5 (sq p2 al cs bn (cq + 1)).1 op cq (hs.len (by omega)) (by omega) (by omega) (by omega) (by omega)) rfl gX6_search_X6_addAll 2 (by decide +kernel) rfl ⟨rfl, rfl⟩ ⟨Nat.le_of_ble_eq_true rfl, Nat.le_of_ble_eq_true rfl⟩ (rest := []) (q0 := 0) rfl rfl hA [0, 1, 4, 5, 6, 7, 8, 9, 10, 11] [2, 3] rfl rfl rfl (wr := [(na, .inl (ty.2.2, 10, .inl (zB al))), (nc, .inl (ty.2.2, 16, .inl (zB cs)))]) rfl rfl rfl (Nat.le_of_ble_eq_true rfl) dX6_search_154 ⟨Nat.le_of_ble_eq_true rfl, Nat.le_of_ble_eq_true rfl⟩ rfl (g_kuv (fun w hr => ?_))
                                      obtain ⟨fM154, qM154, oM154, aM154, bM154, lM154, hM154, hw154, rfl⟩ := hr
                                      have he154 : (if 4 ≤ op then twoA op cq (sq p2 al cs bn (cq + 1)).1 (cq - p2 op) (cq - p2 op + 1) 0 es5 else oneN op cq ((sq p2 al cs bn (cq + 1)).1 (cq - p2 op + 1) - (sq p2 al cs bn (cq + 1)).1 (cq - p2 op)) ((sq p2 al cs bn (cq + 1)).1 (cq - p2 op)) es5) = (opN p2 al (sq p2 al cs bn (cq + 1)).1 cq op es5) := by
                                        by_cases q4 : 4 ≤ op
                                        · rw [if_pos q4, opN_two ⟨b_t h138, by omega⟩ q4]
                                        · rw [if_neg q4, opN_one ⟨b_t h138, by omega⟩ q4]
                                      rw [he154] at hw154 ⊢
                                      have hl154 := opN_len (p := p2) (al := al) (st := (sq p2 al cs bn (cq + 1)).1) (c := cq) (op := op) hw5.2.2.2.2
                                      refine g_ws (ws' := [(n0, .inr (5, [.int (nI 0), .ref np, .ref na, .int (nI (p2 10)), .ref nc, .int (nI ((opN p2 al (sq p2 al cs bn (cq + 1)).1 cq op es5).length)), .ref nf, .ref nq, .ref no, .ref nx, .ref ny, .ref nl, .ref nh, .ref nb, .ref nw, .int pl, .ref nt, .int tl, .int av, .int wr, .long rs])), (np, .inl (ty.1, 10, .inl (zN p2))), (na, .inl (ty.2.2, 10, .inl (zB al))), (nc, .inl (ty.2.2, 16, .inl (zB cs))), (nf, .inl (ty.2.1, 2000, .inr (.inl fM154))), (nq, .inl (ty.1, 2000, .inl qM154)), (no, .inl (ty.1, 2000, .inl oM154)), (nx, .inl (ty.1, 2000, .inl aM154)), (ny, .inl (ty.1, 2000, .inl bM154)), (nl, .inl (ty.1, 1024, .inl lM154)), (nh, .inl (ty.1, 2000, .inl hM154)), (nb, .inl (ty.1, 8, .inl (upd gM1 cq (nI (sq p2 al cs bn cq).2.length))))]) [2, 3, 0, 1, 4, 5, 6, 7, 8, 9, 10, 11] rfl rfl rfl ?_
                                      have L157 : ∀ (n9 : Nat) (es6 : List Ent) (fM6 : Nat → Int64) (qM6 oM6 aM6 bM6 lM6 hM6 : Nat → Int32), 0 < n9 → (modOk es6 fM6 qM6 oM6 aM6 bM6 lM6 hM6) → ((sq p2 al cs bn cq).2.length ≤ es6.length) → (opsN p2 al (sq p2 al cs bn (cq + 1)).1 cq (10 - (op + 1)) (op + 1) es6 = mkC p2 al cs (sq p2 al cs bn (cq + 1)).1 cq (sq p2 al cs bn cq).2) → gG (g_IU A D s) p l e rm_t_X6_search s m args below meth c Q 4 0 0 157 [(3, .int (nI op)), (2, .int (nI cq)), (0, .ref n0), (1, .int (nI bn))] [] [(n0, .inr (5, [.int (nI 0), .ref np, .ref na, .int (nI (p2 10)), .ref nc, .int (nI es6.length), .ref nf, .ref nq, .ref no, .ref nx, .ref ny, .ref nl, .ref nh, .ref nb, .ref nw, .int pl, .ref nt, .int tl, .int av, .int wr, .long rs])), (np, .inl (ty.1, 10, .inl (zN p2))), (na, .inl (ty.2.2, 10, .inl (zB al))), (nc, .inl (ty.2.2, 16, .inl (zB cs))), (nf, .inl (ty.2.1, 2000, .inr (.inl fM6))), (nq, .inl (ty.1, 2000, .inl qM6)), (no, .inl (ty.1, 2000, .inl oM6)), (nx, .inl (ty.1, 2000, .inl aM6)), (ny, .inl (ty.1, 2000, .inl bM6)), (nl, .inl (ty.1, 1024, .inl lM6)), (nh, .inl (ty.1, 2000, .inl hM6)), (nb, .inl (ty.1, 8, .inl (upd gM1 cq (nI (sq p2 al cs bn cq).2.length))))] := by
                                        intro n9
                                        induction n9 with
                                        | zero => intro es6 fM6 qM6 oM6 aM6 bM6 lM6 hM6 hn; exact absurd hn (Nat.not_lt_zero _)
                                        | succ n9 ih157 =>
                                          intro es6 fM6 qM6 oM6 aM6 bM6 lM6 hM6 hn157 hw6 hl6 hT6
                                          refine g_iinc C dX6_search_157 0 rfl (v := (nI (op + 1))) (nI_1 op) (by decide) (lv' := [(3, .int (nI (op + 1))), (2, .int (nI cq)), (0, .ref n0), (1, .int (nI bn))]) rfl ?_
                                          refine g_goto C dX6_search_160 (tgt := 126) (by decide) ?_
                                          exact ih126 (op + 1) es6 fM6 qM6 oM6 aM6 bM6 lM6 hM6 (by omega) (by omega) hw6 hl6 hT6
                                      exact L157 _ (opN p2 al (sq p2 al cs bn (cq + 1)).1 cq op es5) fM154 qM154 oM154 aM154 bM154 lM154 hM154 (Nat.lt_succ_self _) hw154 (by omega) (by rw [show 10 - op = (10 - (op + 1)) + 1 by omega] at hT2; rw [← hT2]; first | rfl | exact congrArg (opsN p2 al (sq p2 al cs bn (cq + 1)).1 cq (10 - (op + 1)) (op + 1)) (opN_no (fun q => absurd q.1 (b_f h138))).symm | exact congrArg (opsN p2 al (sq p2 al cs bn (cq + 1)).1 cq (10 - (op + 1)) (op + 1)) (opN_no (fun q => by omega)).symm)
                            exact L126 _ 0 es4 fM4 qM4 oM4 aM4 bM4 lM4 hM4 (Nat.lt_succ_self _) (by omega) hw4 hl4 (by rw [hE3]; rfl)
                          · skip
                            refine g_iload_n C dX6_search_88 1 rfl rfl ?_
                            refine g_aload_n C dX6_search_89 2 rfl rfl ?_
                            refine g_get C 0 rfl rfl 3 (by decide) (fun _ h => (List.mem_cons_of_mem _ (List.mem_append_right _ h))) 6 rfl rfl rfl dX6_search_90 ?_
                            refine g_icmp_neN C dX6_search_93 (tgt := 124) (by decide) (by omega) (by omega) (fun h93 => ?_) (fun h93 => ?_)
                            · skip
                              have hE3 : es4 = (mk1 p2 cs cq (mk0 cq (sq p2 al cs bn cq).2)) := hT1.2 h93
                              refine g_iconst C dX6_search_124 (v := (nI 0)) (by decide) ?_
                              refine g_istore_n C dX6_search_125 rfl (by decide) (lv' := [(3, .int (nI 0)), (2, .int (nI cq)), (0, .ref n0), (1, .int (nI bn))]) rfl ?_
                              have L126 : ∀ (n9 : Nat) (op : Nat) (es5 : List Ent) (fM5 : Nat → Int64) (qM5 oM5 aM5 bM5 lM5 hM5 : Nat → Int32), 10 - op < n9 → (op ≤ 10) → (modOk es5 fM5 qM5 oM5 aM5 bM5 lM5 hM5) → ((sq p2 al cs bn cq).2.length ≤ es5.length) → (opsN p2 al (sq p2 al cs bn (cq + 1)).1 cq (10 - op) op es5 = mkC p2 al cs (sq p2 al cs bn (cq + 1)).1 cq (sq p2 al cs bn cq).2) → gG (g_IU A D s) p l e rm_t_X6_search s m args below meth c Q 4 0 0 126 [(3, .int (nI op)), (2, .int (nI cq)), (0, .ref n0), (1, .int (nI bn))] [] [(n0, .inr (5, [.int (nI 0), .ref np, .ref na, .int (nI (p2 10)), .ref nc, .int (nI es5.length), .ref nf, .ref nq, .ref no, .ref nx, .ref ny, .ref nl, .ref nh, .ref nb, .ref nw, .int pl, .ref nt, .int tl, .int av, .int wr, .long rs])), (np, .inl (ty.1, 10, .inl (zN p2))), (na, .inl (ty.2.2, 10, .inl (zB al))), (nc, .inl (ty.2.2, 16, .inl (zB cs))), (nf, .inl (ty.2.1, 2000, .inr (.inl fM5))), (nq, .inl (ty.1, 2000, .inl qM5)), (no, .inl (ty.1, 2000, .inl oM5)), (nx, .inl (ty.1, 2000, .inl aM5)), (ny, .inl (ty.1, 2000, .inl bM5)), (nl, .inl (ty.1, 1024, .inl lM5)), (nh, .inl (ty.1, 2000, .inl hM5)), (nb, .inl (ty.1, 8, .inl (upd gM1 cq (nI (sq p2 al cs bn cq).2.length))))] := by
                                intro n9
                                induction n9 with
                                | zero => intro op es5 fM5 qM5 oM5 aM5 bM5 lM5 hM5 hn; exact absurd hn (Nat.not_lt_zero _)
                                | succ n9 ih126 =>
                                  intro op es5 fM5 qM5 oM5 aM5 bM5 lM5 hM5 hn126 ho hw5 hl5 hT2
                                  have hl5b := hw5.2.2.2.2
                                  have hbt := bt_lt (al op)
                                  refine g_iload_n C dX6_search_126 0 rfl rfl ?_
                                  refine g_bipush C dX6_search_127 (v := (nI 10)) (by decide) ?_
                                  refine g_icmp_geN C dX6_search_129 (tgt := 163) (by decide) (by omega) (by omega) (fun h129 => ?_) (fun h129 => ?_)
                                  · skip
                                    have hwN : modOk (sq p2 al cs bn (cq + 1)).2 fM5 qM5 oM5 aM5 bM5 lM5 hM5 := by rw [sq_in (show cq ≤ bn by omega), ← hT2, show 10 - op = 0 by omega]; exact hw5
                                    have hE5 : es5 = (sq p2 al cs bn (cq + 1)).2 := by rw [sq_in (show cq ≤ bn by omega), ← hT2, show 10 - op = 0 by omega]; rfl
                                    refine g_is (ws2 := [(n0, .inr (5, [.int (nI 0), .ref np, .ref na, .int (nI (p2 10)), .ref nc, .int (nI ((sq p2 al cs bn (cq + 1)).2.length)), .ref nf, .ref nq, .ref no, .ref nx, .ref ny, .ref nl, .ref nh, .ref nb, .ref nw, .int pl, .ref nt, .int tl, .int av, .int wr, .long rs])), (np, .inl (ty.1, 10, .inl (zN p2))), (na, .inl (ty.2.2, 10, .inl (zB al))), (nc, .inl (ty.2.2, 16, .inl (zB cs))), (nf, .inl (ty.2.1, 2000, .inr (.inl fM5))), (nq, .inl (ty.1, 2000, .inl qM5)), (no, .inl (ty.1, 2000, .inl oM5)), (nx, .inl (ty.1, 2000, .inl aM5)), (ny, .inl (ty.1, 2000, .inl bM5)), (nl, .inl (ty.1, 1024, .inl lM5)), (nh, .inl (ty.1, 2000, .inl hM5)), (nb, .inl (ty.1, 8, .inl (upd gM1 cq (nI (sq p2 al cs bn cq).2.length))))]) ?_ rfl rfl rfl (by rw [hE5])
                                    refine g_aload_n C dX6_search_163 2 rfl rfl ?_
                                    refine g_get C 0 rfl rfl 13 (by decide) (fun _ h => (List.mem_cons_of_mem _ (List.mem_append_right _ h))) 4 rfl rfl rfl dX6_search_164 ?_
                                    refine g_iload_n C dX6_search_167 1 rfl rfl ?_
                                    refine g_iconst C dX6_search_168 (v := (nI 1)) (by decide) ?_
                                    refine g_iadd C dX6_search_169 (v := (nI (cq + 1))) (nI_add _ _) ?_
                                    refine g_aload_n C dX6_search_170 2 rfl rfl ?_
                                    refine g_get C 0 rfl rfl 5 (by decide) (fun _ h => (List.mem_cons_of_mem _ (List.mem_append_right _ h))) 2 rfl rfl rfl dX6_search_171 ?_
                                    refine g_iast C 11 rfl (by omega) (by omega) (f' := upd (upd gM1 cq (nI (sq p2 al cs bn cq).2.length)) (cq + 1) (nI ((sq p2 al cs bn (cq + 1)).2.length))) rfl (ws' := [(n0, .inr (5, [.int (nI 0), .ref np, .ref na, .int (nI (p2 10)), .ref nc, .int (nI ((sq p2 al cs bn (cq + 1)).2.length)), .ref nf, .ref nq, .ref no, .ref nx, .ref ny, .ref nl, .ref nh, .ref nb, .ref nw, .int pl, .ref nt, .int tl, .int av, .int wr, .long rs])), (np, .inl (ty.1, 10, .inl (zN p2))), (na, .inl (ty.2.2, 10, .inl (zB al))), (nc, .inl (ty.2.2, 16, .inl (zB cs))), (nf, .inl (ty.2.1, 2000, .inr (.inl fM5))), (nq, .inl (ty.1, 2000, .inl qM5)), (no, .inl (ty.1, 2000, .inl oM5)), (nx, .inl (ty.1, 2000, .inl aM5)), (ny, .inl (ty.1, 2000, .inl bM5)), (nl, .inl (ty.1, 1024, .inl lM5)), (nh, .inl (ty.1, 2000, .inl hM5)), (nb, .inl (ty.1, 8, .inl (upd (upd gM1 cq (nI (sq p2 al cs bn cq).2.length)) (cq + 1) (nI ((sq p2 al cs bn (cq + 1)).2.length)))))]) rfl dX6_search_174 ?_
                                    refine g_iinc C dX6_search_175 1 rfl (v := (nI (cq + 1))) (nI_1 cq) (by decide) (lv' := [(2, .int (nI (cq + 1))), (3, .int (nI op)), (0, .ref n0), (1, .int (nI bn))]) rfl ?_
                                    refine g_goto C dX6_search_178 (tgt := 50) (by decide) ?_
                                    refine g_lv [0, 2, 3] rfl ?_
                                    exact ih50 (cq + 1) fM5 qM5 oM5 aM5 bM5 lM5 hM5 (upd (upd gM1 cq (nI (sq p2 al cs bn cq).2.length)) (cq + 1) (nI ((sq p2 al cs bn (cq + 1)).2.length))) (by omega) (by omega) hwN (fun j hj => by by_cases q : j = cq; subst q; rw [pk_un (by omega), pk_us, sq_st]; rw [pk_un (by omega), pk_un q, sq_st_ne q]; exact ht j (by omega))
                                  · skip
                                    have hpo := hp.1 op (by omega)
                                    refine g_aload_n C dX6_search_132 2 rfl rfl ?_
                                    refine g_get C 0 rfl rfl 2 (by decide) (fun _ h => (List.mem_cons_of_mem _ (List.mem_append_right _ h))) 8 rfl rfl rfl dX6_search_133 ?_
                                    refine g_iload_n C dX6_search_136 0 rfl rfl ?_
                                    refine g_zald C (v := (nI ((al op).toNat))) 2 rfl (by omega) (by omega) rfl dX6_search_137 ?_
                                    refine g_if_eqN C dX6_search_138 (tgt := 157) (by decide) (by omega) (fun h138 => ?_) (fun h138 => ?_)
                                    · skip
                                      have L157 : ∀ (n9 : Nat) (es6 : List Ent) (fM6 : Nat → Int64) (qM6 oM6 aM6 bM6 lM6 hM6 : Nat → Int32), 0 < n9 → (modOk es6 fM6 qM6 oM6 aM6 bM6 lM6 hM6) → ((sq p2 al cs bn cq).2.length ≤ es6.length) → (opsN p2 al (sq p2 al cs bn (cq + 1)).1 cq (10 - (op + 1)) (op + 1) es6 = mkC p2 al cs (sq p2 al cs bn (cq + 1)).1 cq (sq p2 al cs bn cq).2) → gG (g_IU A D s) p l e rm_t_X6_search s m args below meth c Q 4 0 0 157 [(3, .int (nI op)), (2, .int (nI cq)), (0, .ref n0), (1, .int (nI bn))] [] [(n0, .inr (5, [.int (nI 0), .ref np, .ref na, .int (nI (p2 10)), .ref nc, .int (nI es6.length), .ref nf, .ref nq, .ref no, .ref nx, .ref ny, .ref nl, .ref nh, .ref nb, .ref nw, .int pl, .ref nt, .int tl, .int av, .int wr, .long rs])), (np, .inl (ty.1, 10, .inl (zN p2))), (na, .inl (ty.2.2, 10, .inl (zB al))), (nc, .inl (ty.2.2, 16, .inl (zB cs))), (nf, .inl (ty.2.1, 2000, .inr (.inl fM6))), (nq, .inl (ty.1, 2000, .inl qM6)), (no, .inl (ty.1, 2000, .inl oM6)), (nx, .inl (ty.1, 2000, .inl aM6)), (ny, .inl (ty.1, 2000, .inl bM6)), (nl, .inl (ty.1, 1024, .inl lM6)), (nh, .inl (ty.1, 2000, .inl hM6)), (nb, .inl (ty.1, 8, .inl (upd gM1 cq (nI (sq p2 al cs bn cq).2.length))))] := by
                                        intro n9
                                        induction n9 with
                                        | zero => intro es6 fM6 qM6 oM6 aM6 bM6 lM6 hM6 hn; exact absurd hn (Nat.not_lt_zero _)
                                        | succ n9 ih157 =>
                                          intro es6 fM6 qM6 oM6 aM6 bM6 lM6 hM6 hn157 hw6 hl6 hT6
                                          refine g_iinc C dX6_search_157 0 rfl (v := (nI (op + 1))) (nI_1 op) (by decide) (lv' := [(3, .int (nI (op + 1))), (2, .int (nI cq)), (0, .ref n0), (1, .int (nI bn))]) rfl ?_
                                          refine g_goto C dX6_search_160 (tgt := 126) (by decide) ?_
                                          exact ih126 (op + 1) es6 fM6 qM6 oM6 aM6 bM6 lM6 hM6 (by omega) (by omega) hw6 hl6 hT6
                                      exact L157 _ es5 fM5 qM5 oM5 aM5 bM5 lM5 hM5 (Nat.lt_succ_self _) hw5 (by omega) (by rw [show 10 - op = (10 - (op + 1)) + 1 by omega] at hT2; rw [← hT2]; first | rfl | exact congrArg (opsN p2 al (sq p2 al cs bn (cq + 1)).1 cq (10 - (op + 1)) (op + 1)) (opN_no (fun q => absurd q.1 (b_f h138))).symm | exact congrArg (opsN p2 al (sq p2 al cs bn (cq + 1)).1 cq (10 - (op + 1)) (op + 1)) (opN_no (fun q => by omega)).symm)
                                    · skip
                                      refine g_aload_n C dX6_search_141 2 rfl rfl ?_
                                      refine g_get C 0 rfl rfl 1 (by decide) (fun _ h => (List.mem_cons_of_mem _ (List.mem_append_right _ h))) 9 rfl rfl rfl dX6_search_142 ?_
                                      refine g_iload_n C dX6_search_145 0 rfl rfl ?_
                                      refine g_iald C (v := (nI (p2 op))) 1 rfl (by omega) (by omega) rfl dX6_search_146 ?_
                                      refine g_iload_n C dX6_search_147 1 rfl rfl ?_
                                      refine g_icmp_gtN C dX6_search_148 (tgt := 157) (by decide) (by omega) (by omega) (fun h148 => ?_) (fun h148 => ?_)
                                      · skip
                                        have L157 : ∀ (n9 : Nat) (es6 : List Ent) (fM6 : Nat → Int64) (qM6 oM6 aM6 bM6 lM6 hM6 : Nat → Int32), 0 < n9 → (modOk es6 fM6 qM6 oM6 aM6 bM6 lM6 hM6) → ((sq p2 al cs bn cq).2.length ≤ es6.length) → (opsN p2 al (sq p2 al cs bn (cq + 1)).1 cq (10 - (op + 1)) (op + 1) es6 = mkC p2 al cs (sq p2 al cs bn (cq + 1)).1 cq (sq p2 al cs bn cq).2) → gG (g_IU A D s) p l e rm_t_X6_search s m args below meth c Q 4 0 0 157 [(3, .int (nI op)), (2, .int (nI cq)), (0, .ref n0), (1, .int (nI bn))] [] [(n0, .inr (5, [.int (nI 0), .ref np, .ref na, .int (nI (p2 10)), .ref nc, .int (nI es6.length), .ref nf, .ref nq, .ref no, .ref nx, .ref ny, .ref nl, .ref nh, .ref nb, .ref nw, .int pl, .ref nt, .int tl, .int av, .int wr, .long rs])), (np, .inl (ty.1, 10, .inl (zN p2))), (na, .inl (ty.2.2, 10, .inl (zB al))), (nc, .inl (ty.2.2, 16, .inl (zB cs))), (nf, .inl (ty.2.1, 2000, .inr (.inl fM6))), (nq, .inl (ty.1, 2000, .inl qM6)), (no, .inl (ty.1, 2000, .inl oM6)), (nx, .inl (ty.1, 2000, .inl aM6)), (ny, .inl (ty.1, 2000, .inl bM6)), (nl, .inl (ty.1, 1024, .inl lM6)), (nh, .inl (ty.1, 2000, .inl hM6)), (nb, .inl (ty.1, 8, .inl (upd gM1 cq (nI (sq p2 al cs bn cq).2.length))))] := by
                                          intro n9
                                          induction n9 with
                                          | zero => intro es6 fM6 qM6 oM6 aM6 bM6 lM6 hM6 hn; exact absurd hn (Nat.not_lt_zero _)
                                          | succ n9 ih157 =>
                                            intro es6 fM6 qM6 oM6 aM6 bM6 lM6 hM6 hn157 hw6 hl6 hT6
                                            refine g_iinc C dX6_search_157 0 rfl (v := (nI (op + 1))) (nI_1 op) (by decide) (lv' := [(3, .int (nI (op + 1))), (2, .int (nI cq)), (0, .ref n0), (1, .int (nI bn))]) rfl ?_
                                            refine g_goto C dX6_search_160 (tgt := 126) (by decide) ?_
                                            exact ih126 (op + 1) es6 fM6 qM6 oM6 aM6 bM6 lM6 hM6 (by omega) (by omega) hw6 hl6 hT6
                                        exact L157 _ es5 fM5 qM5 oM5 aM5 bM5 lM5 hM5 (Nat.lt_succ_self _) hw5 (by omega) (by rw [show 10 - op = (10 - (op + 1)) + 1 by omega] at hT2; rw [← hT2]; first | rfl | exact congrArg (opsN p2 al (sq p2 al cs bn (cq + 1)).1 cq (10 - (op + 1)) (op + 1)) (opN_no (fun q => absurd q.1 (b_f h138))).symm | exact congrArg (opsN p2 al (sq p2 al cs bn (cq + 1)).1 cq (10 - (op + 1)) (op + 1)) (opN_no (fun q => by omega)).symm)
                                      · skip
                                        refine g_aload_n C dX6_search_151 2 rfl rfl ?_
                                        refine g_iload_n C dX6_search_152 1 rfl rfl ?_
                                        refine g_iload_n C dX6_search_153 0 rfl rfl ?_
                                        refine g_callUV C ⟨g_X0_ok, trivial⟩ (t_X6_addAll l D ty n0 np na nc nf nq no nx ny nl nh nb nw nt (nI 0) (nI (p2 10)) pl tl av wr rs p2 (upd gM1 cq (nI (sq p2 al cs bn cq).2.length)) es5 fM5 qM5 oM5 aM5 bM5 lM5 hM5 hw5 (sq p2 al cs bn (cq + 1)).1 op cq (hs.len (by omega)) (by omega) (by omega) (by omega) (by omega)) rfl gX6_search_X6_addAll 2 (by decide +kernel) rfl ⟨rfl, rfl⟩ ⟨Nat.le_of_ble_eq_true rfl, Nat.le_of_ble_eq_true rfl⟩ (rest := []) (q0 := 0) rfl rfl hA [0, 1, 4, 5, 6, 7, 8, 9, 10, 11] [2, 3] rfl rfl rfl (wr := [(na, .inl (ty.2.2, 10, .inl (zB al))), (nc, .inl (ty.2.2, 16, .inl (zB cs)))]) rfl rfl rfl (Nat.le_of_ble_eq_true rfl) dX6_search_154 ⟨Nat.le_of_ble_eq_true rfl, Nat.le_of_ble_eq_true rfl⟩ rfl (g_kuv (fun w hr => ?_))
                                        obtain ⟨fM154, qM154, oM154, aM154, bM154, lM154, hM154, hw154, rfl⟩ := hr
                                        have he154 : (if 4 ≤ op then twoA op cq (sq p2 al cs bn (cq + 1)).1 (cq - p2 op) (cq - p2 op + 1) 0 es5 else oneN op cq ((sq p2 al cs bn (cq + 1)).1 (cq - p2 op + 1) - (sq p2 al cs bn (cq + 1)).1 (cq - p2 op)) ((sq p2 al cs bn (cq + 1)).1 (cq - p2 op)) es5) = (opN p2 al (sq p2 al cs bn (cq + 1)).1 cq op es5) := by
                                          by_cases q4 : 4 ≤ op
                                          · rw [if_pos q4, opN_two ⟨b_t h138, by omega⟩ q4]
                                          · rw [if_neg q4, opN_one ⟨b_t h138, by omega⟩ q4]
                                        rw [he154] at hw154 ⊢
                                        have hl154 := opN_len (p := p2) (al := al) (st := (sq p2 al cs bn (cq + 1)).1) (c := cq) (op := op) hw5.2.2.2.2
                                        refine g_ws (ws' := [(n0, .inr (5, [.int (nI 0), .ref np, .ref na, .int (nI (p2 10)), .ref nc, .int (nI ((opN p2 al (sq p2 al cs bn (cq + 1)).1 cq op es5).length)), .ref nf, .ref nq, .ref no, .ref nx, .ref ny, .ref nl, .ref nh, .ref nb, .ref nw, .int pl, .ref nt, .int tl, .int av, .int wr, .long rs])), (np, .inl (ty.1, 10, .inl (zN p2))), (na, .inl (ty.2.2, 10, .inl (zB al))), (nc, .inl (ty.2.2, 16, .inl (zB cs))), (nf, .inl (ty.2.1, 2000, .inr (.inl fM154))), (nq, .inl (ty.1, 2000, .inl qM154)), (no, .inl (ty.1, 2000, .inl oM154)), (nx, .inl (ty.1, 2000, .inl aM154)), (ny, .inl (ty.1, 2000, .inl bM154)), (nl, .inl (ty.1, 1024, .inl lM154)), (nh, .inl (ty.1, 2000, .inl hM154)), (nb, .inl (ty.1, 8, .inl (upd gM1 cq (nI (sq p2 al cs bn cq).2.length))))]) [2, 3, 0, 1, 4, 5, 6, 7, 8, 9, 10, 11] rfl rfl rfl ?_
                                        have L157 : ∀ (n9 : Nat) (es6 : List Ent) (fM6 : Nat → Int64) (qM6 oM6 aM6 bM6 lM6 hM6 : Nat → Int32), 0 < n9 → (modOk es6 fM6 qM6 oM6 aM6 bM6 lM6 hM6) → ((sq p2 al cs bn cq).2.length ≤ es6.length) → (opsN p2 al (sq p2 al cs bn (cq + 1)).1 cq (10 - (op + 1)) (op + 1) es6 = mkC p2 al cs (sq p2 al cs bn (cq + 1)).1 cq (sq p2 al cs bn cq).2) → gG (g_IU A D s) p l e rm_t_X6_search s m args below meth c Q 4 0 0 157 [(3, .int (nI op)), (2, .int (nI cq)), (0, .ref n0), (1, .int (nI bn))] [] [(n0, .inr (5, [.int (nI 0), .ref np, .ref na, .int (nI (p2 10)), .ref nc, .int (nI es6.length), .ref nf, .ref nq, .ref no, .ref nx, .ref ny, .ref nl, .ref nh, .ref nb, .ref nw, .int pl, .ref nt, .int tl, .int av, .int wr, .long rs])), (np, .inl (ty.1, 10, .inl (zN p2))), (na, .inl (ty.2.2, 10, .inl (zB al))), (nc, .inl (ty.2.2, 16, .inl (zB cs))), (nf, .inl (ty.2.1, 2000, .inr (.inl fM6))), (nq, .inl (ty.1, 2000, .inl qM6)), (no, .inl (ty.1, 2000, .inl oM6)), (nx, .inl (ty.1, 2000, .inl aM6)), (ny, .inl (ty.1, 2000, .inl bM6)), (nl, .inl (ty.1, 1024, .inl lM6)), (nh, .inl (ty.1, 2000, .inl hM6)), (nb, .inl (ty.1, 8, .inl (upd gM1 cq (nI (sq p2 al cs bn cq).2.length))))] := by
                                          intro n9
                                          induction n9 with
                                          | zero => intro es6 fM6 qM6 oM6 aM6 bM6 lM6 hM6 hn; exact absurd hn (Nat.not_lt_zero _)
                                          | succ n9 ih157 =>
                                            intro es6 fM6 qM6 oM6 aM6 bM6 lM6 hM6 hn157 hw6 hl6 hT6
                                            refine g_iinc C dX6_search_157 0 rfl (v := (nI (op + 1))) (nI_1 op) (by decide) (lv' := [(3, .int (nI (op + 1))), (2, .int (nI cq)), (0, .ref n0), (1, .int (nI bn))]) rfl ?_
                                            refine g_goto C dX6_search_160 (tgt := 126) (by decide) ?_
                                            exact ih126 (op + 1) es6 fM6 qM6 oM6 aM6 bM6 lM6 hM6 (by omega) (by omega) hw6 hl6 hT6
                                        exact L157 _ (opN p2 al (sq p2 al cs bn (cq + 1)).1 cq op es5) fM154 qM154 oM154 aM154 bM154 lM154 hM154 (Nat.lt_succ_self _) hw154 (by omega) (by rw [show 10 - op = (10 - (op + 1)) + 1 by omega] at hT2; rw [← hT2]; first | rfl | exact congrArg (opsN p2 al (sq p2 al cs bn (cq + 1)).1 cq (10 - (op + 1)) (op + 1)) (opN_no (fun q => absurd q.1 (b_f h138))).symm | exact congrArg (opsN p2 al (sq p2 al cs bn (cq + 1)).1 cq (10 - (op + 1)) (op + 1)) (opN_no (fun q => by omega)).symm)
                              exact L126 _ 0 es4 fM4 qM4 oM4 aM4 bM4 lM4 hM4 (Nat.lt_succ_self _) (by omega) hw4 hl4 (by rw [hE3]; rfl)
                            · skip
                              refine g_aload_n C dX6_search_96 2 rfl rfl ?_
                              refine g_get C 0 rfl rfl 4 (by decide) (fun _ h => (List.mem_cons_of_mem _ (List.mem_append_right _ h))) 7 rfl rfl rfl dX6_search_97 ?_
                              refine g_iload_n C dX6_search_100 0 rfl rfl ?_
                              refine g_zald C (v := (nI ((cs v).toNat))) 3 rfl (by omega) (by omega) rfl dX6_search_101 ?_
                              refine g_if_eqN C dX6_search_102 (tgt := 118) (by decide) (by omega) (fun h102 => ?_) (fun h102 => ?_)
                              · skip
                                refine g_iinc C dX6_search_118 0 rfl (v := (nI (v + 1))) (nI_1 v) (by decide) (lv' := [(3, .int (nI (v + 1))), (2, .int (nI cq)), (0, .ref n0), (1, .int (nI bn))]) rfl ?_
                                refine g_goto C dX6_search_121 (tgt := 82) (by decide) ?_
                                exact ih82 (v + 1) es4 fM4 qM4 oM4 aM4 bM4 lM4 hM4 (by omega) (by omega) hw4 (by omega) ⟨fun q => by have hT := hT1.1 q; rw [show 16 - v = (16 - (v + 1)) + 1 by omega] at hT; rw [← hT]; exact congrArg (coN cs cq (16 - (v + 1)) (v + 1)) (by first | exact (if_pos (b_t h102)).symm | exact (if_neg (b_f h102)).symm), fun q => absurd (by omega) q⟩
                              · skip
                                refine g_aload_n C dX6_search_105 2 rfl rfl ?_
                                refine g_iload_n C dX6_search_106 0 rfl rfl ?_
                                refine g_callPS C ⟨g_X0_ok, trivial⟩ (t_X6_constant l D ty v (by omega)) rfl gX6_search_X6_constant 1 (by decide +kernel) rfl ⟨rfl, rfl⟩ ⟨Nat.le_of_ble_eq_true rfl, Nat.le_of_ble_eq_true rfl⟩ (rest := [.ref n0]) [] rfl (Nat.le_of_ble_eq_true rfl) dX6_search_107 ⟨Nat.le_of_ble_eq_true rfl, Nat.le_of_ble_eq_true rfl⟩ rfl (g_kl (fun r hr => ?_))
                                subst hr
                                refine g_iload_n C dX6_search_110 1 rfl rfl ?_
                                refine g_bipush C dX6_search_111 (v := (-2)) (by decide) ?_
                                refine g_iload_n C dX6_search_113 0 rfl rfl ?_
                                refine g_iconst C dX6_search_114 (v := (-1)) (by decide) ?_
                                refine g_callUV C ⟨g_X0_ok, trivial⟩ (t_X6_add l D ty n0 np na nc nf nq no nx ny nl nh nb nw nt (nI 0) (nI (p2 10)) pl tl av wr rs es4 fM4 qM4 oM4 aM4 bM4 lM4 hM4 hw4 (kF v) cq (-2) (nI v) (-1)) rfl gX6_search_X6_add 5 (by decide +kernel) rfl ⟨rfl, rfl⟩ ⟨Nat.le_of_ble_eq_true rfl, Nat.le_of_ble_eq_true rfl⟩ (rest := []) (q0 := 0) rfl rfl hA [0, 4, 5, 6, 7, 8, 9, 10] [1, 2, 3, 11] rfl rfl rfl (wr := [(np, .inl (ty.1, 10, .inl (zN p2))), (na, .inl (ty.2.2, 10, .inl (zB al))), (nc, .inl (ty.2.2, 16, .inl (zB cs))), (nb, .inl (ty.1, 8, .inl (upd gM1 cq (nI (sq p2 al cs bn cq).2.length))))]) rfl rfl rfl (Nat.le_of_ble_eq_true rfl) dX6_search_115 ⟨Nat.le_of_ble_eq_true rfl, Nat.le_of_ble_eq_true rfl⟩ rfl (g_kuv (fun w hr => ?_))
                                obtain ⟨fM115, qM115, oM115, aM115, bM115, lM115, hM115, hw115, rfl⟩ := hr
                                have hl115 := addE_len (f := (kF v)) (c := cq) (o := (-2)) (a := (nI v)) (b := (-1)) hw4.2.2.2.2
                                refine g_ws (ws' := [(n0, .inr (5, [.int (nI 0), .ref np, .ref na, .int (nI (p2 10)), .ref nc, .int (nI ((addE (kF v) cq (-2) (nI v) (-1) es4).length)), .ref nf, .ref nq, .ref no, .ref nx, .ref ny, .ref nl, .ref nh, .ref nb, .ref nw, .int pl, .ref nt, .int tl, .int av, .int wr, .long rs])), (np, .inl (ty.1, 10, .inl (zN p2))), (na, .inl (ty.2.2, 10, .inl (zB al))), (nc, .inl (ty.2.2, 16, .inl (zB cs))), (nf, .inl (ty.2.1, 2000, .inr (.inl fM115))), (nq, .inl (ty.1, 2000, .inl qM115)), (no, .inl (ty.1, 2000, .inl oM115)), (nx, .inl (ty.1, 2000, .inl aM115)), (ny, .inl (ty.1, 2000, .inl bM115)), (nl, .inl (ty.1, 1024, .inl lM115)), (nh, .inl (ty.1, 2000, .inl hM115)), (nb, .inl (ty.1, 8, .inl (upd gM1 cq (nI (sq p2 al cs bn cq).2.length))))]) [4, 0, 1, 2, 5, 6, 7, 8, 9, 10, 11, 3] rfl rfl rfl ?_
                                refine g_iinc C dX6_search_118 0 rfl (v := (nI (v + 1))) (nI_1 v) (by decide) (lv' := [(3, .int (nI (v + 1))), (2, .int (nI cq)), (0, .ref n0), (1, .int (nI bn))]) rfl ?_
                                refine g_goto C dX6_search_121 (tgt := 82) (by decide) ?_
                                exact ih82 (v + 1) (addE (kF v) cq (-2) (nI v) (-1) es4) fM115 qM115 oM115 aM115 bM115 lM115 hM115 (by omega) (by omega) hw115 (by omega) ⟨fun q => by have hT := hT1.1 q; rw [show 16 - v = (16 - (v + 1)) + 1 by omega] at hT; rw [← hT]; exact congrArg (coN cs cq (16 - (v + 1)) (v + 1)) (by first | exact (if_pos (b_t h102)).symm | exact (if_neg (b_f h102)).symm), fun q => absurd (by omega) q⟩
                      exact L82 _ 0 es3 fM3 qM3 oM3 aM3 bM3 lM3 hM3 (Nat.lt_succ_self _) (by omega) hw3 hl3 ⟨fun q => by rw [← hE1]; exact (if_pos q).symm, fun q => by rw [← hE1]; exact (if_neg q).symm⟩
                  exact L80 _ ((sq p2 al cs bn cq).2) fM1 qM1 oM1 aM1 bM1 lM1 hM1 (Nat.lt_succ_self _) hw1 (by omega) (by first | exact (if_pos (show cq = 0 by omega)).symm | exact (if_neg (show ¬ cq = 0 by omega)).symm)
                · skip
                  refine g_aload_n C dX6_search_69 1 rfl rfl ?_
                  refine g_ldc2 C (v := (-81985529216486896)) 5 rfl dX6_search_70 ?_
                  refine g_iconst C dX6_search_73 (v := (nI 0)) (by decide) ?_
                  refine g_iconst C dX6_search_74 (v := (-1)) (by decide) ?_
                  refine g_iconst C dX6_search_75 (v := (-1)) (by decide) ?_
                  refine g_iconst C dX6_search_76 (v := (-1)) (by decide) ?_
                  refine g_callUV C ⟨g_X0_ok, trivial⟩ (t_X6_add l D ty n0 np na nc nf nq no nx ny nl nh nb nw nt (nI 0) (nI (p2 10)) pl tl av wr rs ((sq p2 al cs bn cq).2) fM1 qM1 oM1 aM1 bM1 lM1 hM1 hw1 (-81985529216486896) 0 (-1) (-1) (-1)) rfl gX6_search_X6_add 5 (by decide +kernel) rfl ⟨rfl, rfl⟩ ⟨Nat.le_of_ble_eq_true rfl, Nat.le_of_ble_eq_true rfl⟩ (rest := []) (q0 := 0) rfl rfl hA [0, 4, 5, 6, 7, 8, 9, 10] [1, 2, 3, 11] rfl rfl rfl (wr := [(np, .inl (ty.1, 10, .inl (zN p2))), (na, .inl (ty.2.2, 10, .inl (zB al))), (nc, .inl (ty.2.2, 16, .inl (zB cs))), (nb, .inl (ty.1, 8, .inl (upd gM1 cq (nI ((sq p2 al cs bn cq).2.length)))))]) rfl rfl rfl (Nat.le_of_ble_eq_true rfl) dX6_search_77 ⟨Nat.le_of_ble_eq_true rfl, Nat.le_of_ble_eq_true rfl⟩ rfl (g_kuv (fun w hr => ?_))
                  obtain ⟨fM77, qM77, oM77, aM77, bM77, lM77, hM77, hw77, rfl⟩ := hr
                  have hl77 := addE_len (f := (-81985529216486896)) (c := 0) (o := (-1)) (a := (-1)) (b := (-1)) hw1.2.2.2.2
                  refine g_ws (ws' := [(n0, .inr (5, [.int (nI 0), .ref np, .ref na, .int (nI (p2 10)), .ref nc, .int (nI ((addE (-81985529216486896) 0 (-1) (-1) (-1) (sq p2 al cs bn cq).2).length)), .ref nf, .ref nq, .ref no, .ref nx, .ref ny, .ref nl, .ref nh, .ref nb, .ref nw, .int pl, .ref nt, .int tl, .int av, .int wr, .long rs])), (np, .inl (ty.1, 10, .inl (zN p2))), (na, .inl (ty.2.2, 10, .inl (zB al))), (nc, .inl (ty.2.2, 16, .inl (zB cs))), (nf, .inl (ty.2.1, 2000, .inr (.inl fM77))), (nq, .inl (ty.1, 2000, .inl qM77)), (no, .inl (ty.1, 2000, .inl oM77)), (nx, .inl (ty.1, 2000, .inl aM77)), (ny, .inl (ty.1, 2000, .inl bM77)), (nl, .inl (ty.1, 1024, .inl lM77)), (nh, .inl (ty.1, 2000, .inl hM77)), (nb, .inl (ty.1, 8, .inl (upd gM1 cq (nI ((sq p2 al cs bn cq).2.length)))))]) [4, 0, 1, 2, 5, 6, 7, 8, 9, 10, 11, 3] rfl rfl rfl ?_
                  have L80 : ∀ (n9 : Nat) (es3 : List Ent) (fM3 : Nat → Int64) (qM3 oM3 aM3 bM3 lM3 hM3 : Nat → Int32), 0 < n9 → (modOk es3 fM3 qM3 oM3 aM3 bM3 lM3 hM3) → ((sq p2 al cs bn cq).2.length ≤ es3.length) → (es3 = mk0 cq (sq p2 al cs bn cq).2) → gG (g_IU A D s) p l e rm_t_X6_search s m args below meth c Q 4 0 0 80 [(2, .int (nI cq)), (0, .ref n0), (1, .int (nI bn))] [] [(n0, .inr (5, [.int (nI 0), .ref np, .ref na, .int (nI (p2 10)), .ref nc, .int (nI es3.length), .ref nf, .ref nq, .ref no, .ref nx, .ref ny, .ref nl, .ref nh, .ref nb, .ref nw, .int pl, .ref nt, .int tl, .int av, .int wr, .long rs])), (np, .inl (ty.1, 10, .inl (zN p2))), (na, .inl (ty.2.2, 10, .inl (zB al))), (nc, .inl (ty.2.2, 16, .inl (zB cs))), (nf, .inl (ty.2.1, 2000, .inr (.inl fM3))), (nq, .inl (ty.1, 2000, .inl qM3)), (no, .inl (ty.1, 2000, .inl oM3)), (nx, .inl (ty.1, 2000, .inl aM3)), (ny, .inl (ty.1, 2000, .inl bM3)), (nl, .inl (ty.1, 1024, .inl lM3)), (nh, .inl (ty.1, 2000, .inl hM3)), (nb, .inl (ty.1, 8, .inl (upd gM1 cq (nI (sq p2 al cs bn cq).2.length))))] := by
                    intro n9
                    induction n9 with
                    | zero => intro es3 fM3 qM3 oM3 aM3 bM3 lM3 hM3 hn; exact absurd hn (Nat.not_lt_zero _)
                    | succ n9 ih80 =>
                      intro es3 fM3 qM3 oM3 aM3 bM3 lM3 hM3 hn80 hw3 hl3 hE1
                      refine g_iconst C dX6_search_80 (v := (nI 0)) (by decide) ?_
                      refine g_istore_n C dX6_search_81 rfl (by decide) (lv' := [(3, .int (nI 0)), (2, .int (nI cq)), (0, .ref n0), (1, .int (nI bn))]) rfl ?_
                      have L82 : ∀ (n9 : Nat) (v : Nat) (es4 : List Ent) (fM4 : Nat → Int64) (qM4 oM4 aM4 bM4 lM4 hM4 : Nat → Int32), 16 - v < n9 → (v ≤ 16) → (modOk es4 fM4 qM4 oM4 aM4 bM4 lM4 hM4) → ((sq p2 al cs bn cq).2.length ≤ es4.length) → ((cq = p2 10 → coN cs cq (16 - v) v es4 = (mk1 p2 cs cq (mk0 cq (sq p2 al cs bn cq).2))) ∧ (¬ cq = p2 10 → es4 = (mk1 p2 cs cq (mk0 cq (sq p2 al cs bn cq).2)))) → gG (g_IU A D s) p l e rm_t_X6_search s m args below meth c Q 4 0 0 82 [(3, .int (nI v)), (2, .int (nI cq)), (0, .ref n0), (1, .int (nI bn))] [] [(n0, .inr (5, [.int (nI 0), .ref np, .ref na, .int (nI (p2 10)), .ref nc, .int (nI es4.length), .ref nf, .ref nq, .ref no, .ref nx, .ref ny, .ref nl, .ref nh, .ref nb, .ref nw, .int pl, .ref nt, .int tl, .int av, .int wr, .long rs])), (np, .inl (ty.1, 10, .inl (zN p2))), (na, .inl (ty.2.2, 10, .inl (zB al))), (nc, .inl (ty.2.2, 16, .inl (zB cs))), (nf, .inl (ty.2.1, 2000, .inr (.inl fM4))), (nq, .inl (ty.1, 2000, .inl qM4)), (no, .inl (ty.1, 2000, .inl oM4)), (nx, .inl (ty.1, 2000, .inl aM4)), (ny, .inl (ty.1, 2000, .inl bM4)), (nl, .inl (ty.1, 1024, .inl lM4)), (nh, .inl (ty.1, 2000, .inl hM4)), (nb, .inl (ty.1, 8, .inl (upd gM1 cq (nI (sq p2 al cs bn cq).2.length))))] := by
                        intro n9
                        induction n9 with
                        | zero => intro v es4 fM4 qM4 oM4 aM4 bM4 lM4 hM4 hn; exact absurd hn (Nat.not_lt_zero _)
                        | succ n9 ih82 =>
                          intro v es4 fM4 qM4 oM4 aM4 bM4 lM4 hM4 hn82 hv hw4 hl4 hT1
                          have hbt := bt_lt (cs v)
                          refine g_iload_n C dX6_search_82 0 rfl rfl ?_
                          refine g_bipush C dX6_search_83 (v := (nI 16)) (by decide) ?_
                          refine g_icmp_geN C dX6_search_85 (tgt := 124) (by decide) (by omega) (by omega) (fun h85 => ?_) (fun h85 => ?_)
                          · skip
                            have hE3 : es4 = (mk1 p2 cs cq (mk0 cq (sq p2 al cs bn cq).2)) := by
                              by_cases q : cq = p2 10
                              · rw [← hT1.1 q, show 16 - v = 0 by omega]; rfl
                              · exact hT1.2 q
                            refine g_iconst C dX6_search_124 (v := (nI 0)) (by decide) ?_
                            refine g_istore_n C dX6_search_125 rfl (by decide) (lv' := [(3, .int (nI 0)), (2, .int (nI cq)), (0, .ref n0), (1, .int (nI bn))]) rfl ?_
                            have L126 : ∀ (n9 : Nat) (op : Nat) (es5 : List Ent) (fM5 : Nat → Int64) (qM5 oM5 aM5 bM5 lM5 hM5 : Nat → Int32), 10 - op < n9 → (op ≤ 10) → (modOk es5 fM5 qM5 oM5 aM5 bM5 lM5 hM5) → ((sq p2 al cs bn cq).2.length ≤ es5.length) → (opsN p2 al (sq p2 al cs bn (cq + 1)).1 cq (10 - op) op es5 = mkC p2 al cs (sq p2 al cs bn (cq + 1)).1 cq (sq p2 al cs bn cq).2) → gG (g_IU A D s) p l e rm_t_X6_search s m args below meth c Q 4 0 0 126 [(3, .int (nI op)), (2, .int (nI cq)), (0, .ref n0), (1, .int (nI bn))] [] [(n0, .inr (5, [.int (nI 0), .ref np, .ref na, .int (nI (p2 10)), .ref nc, .int (nI es5.length), .ref nf, .ref nq, .ref no, .ref nx, .ref ny, .ref nl, .ref nh, .ref nb, .ref nw, .int pl, .ref nt, .int tl, .int av, .int wr, .long rs])), (np, .inl (ty.1, 10, .inl (zN p2))), (na, .inl (ty.2.2, 10, .inl (zB al))), (nc, .inl (ty.2.2, 16, .inl (zB cs))), (nf, .inl (ty.2.1, 2000, .inr (.inl fM5))), (nq, .inl (ty.1, 2000, .inl qM5)), (no, .inl (ty.1, 2000, .inl oM5)), (nx, .inl (ty.1, 2000, .inl aM5)), (ny, .inl (ty.1, 2000, .inl bM5)), (nl, .inl (ty.1, 1024, .inl lM5)), (nh, .inl (ty.1, 2000, .inl hM5)), (nb, .inl (ty.1, 8, .inl (upd gM1 cq (nI (sq p2 al cs bn cq).2.length))))] := by
                              intro n9
                              induction n9 with
                              | zero => intro op es5 fM5 qM5 oM5 aM5 bM5 lM5 hM5 hn; exact absurd hn (Nat.not_lt_zero _)
                              | succ n9 ih126 =>
                                intro op es5 fM5 qM5 oM5 aM5 bM5 lM5 hM5 hn126 ho hw5 hl5 hT2
                                have hl5b := hw5.2.2.2.2
                                have hbt := bt_lt (al op)
                                refine g_iload_n C dX6_search_126 0 rfl rfl ?_
                                refine g_bipush C dX6_search_127 (v := (nI 10)) (by decide) ?_
                                refine g_icmp_geN C dX6_search_129 (tgt := 163) (by decide) (by omega) (by omega) (fun h129 => ?_) (fun h129 => ?_)
                                · skip
                                  have hwN : modOk (sq p2 al cs bn (cq + 1)).2 fM5 qM5 oM5 aM5 bM5 lM5 hM5 := by rw [sq_in (show cq ≤ bn by omega), ← hT2, show 10 - op = 0 by omega]; exact hw5
                                  have hE5 : es5 = (sq p2 al cs bn (cq + 1)).2 := by rw [sq_in (show cq ≤ bn by omega), ← hT2, show 10 - op = 0 by omega]; rfl
                                  refine g_is (ws2 := [(n0, .inr (5, [.int (nI 0), .ref np, .ref na, .int (nI (p2 10)), .ref nc, .int (nI ((sq p2 al cs bn (cq + 1)).2.length)), .ref nf, .ref nq, .ref no, .ref nx, .ref ny, .ref nl, .ref nh, .ref nb, .ref nw, .int pl, .ref nt, .int tl, .int av, .int wr, .long rs])), (np, .inl (ty.1, 10, .inl (zN p2))), (na, .inl (ty.2.2, 10, .inl (zB al))), (nc, .inl (ty.2.2, 16, .inl (zB cs))), (nf, .inl (ty.2.1, 2000, .inr (.inl fM5))), (nq, .inl (ty.1, 2000, .inl qM5)), (no, .inl (ty.1, 2000, .inl oM5)), (nx, .inl (ty.1, 2000, .inl aM5)), (ny, .inl (ty.1, 2000, .inl bM5)), (nl, .inl (ty.1, 1024, .inl lM5)), (nh, .inl (ty.1, 2000, .inl hM5)), (nb, .inl (ty.1, 8, .inl (upd gM1 cq (nI (sq p2 al cs bn cq).2.length))))]) ?_ rfl rfl rfl (by rw [hE5])
                                  refine g_aload_n C dX6_search_163 2 rfl rfl ?_
                                  refine g_get C 0 rfl rfl 13 (by decide) (fun _ h => (List.mem_cons_of_mem _ (List.mem_append_right _ h))) 4 rfl rfl rfl dX6_search_164 ?_
                                  refine g_iload_n C dX6_search_167 1 rfl rfl ?_
                                  refine g_iconst C dX6_search_168 (v := (nI 1)) (by decide) ?_
                                  refine g_iadd C dX6_search_169 (v := (nI (cq + 1))) (nI_add _ _) ?_
                                  refine g_aload_n C dX6_search_170 2 rfl rfl ?_
                                  refine g_get C 0 rfl rfl 5 (by decide) (fun _ h => (List.mem_cons_of_mem _ (List.mem_append_right _ h))) 2 rfl rfl rfl dX6_search_171 ?_
                                  refine g_iast C 11 rfl (by omega) (by omega) (f' := upd (upd gM1 cq (nI (sq p2 al cs bn cq).2.length)) (cq + 1) (nI ((sq p2 al cs bn (cq + 1)).2.length))) rfl (ws' := [(n0, .inr (5, [.int (nI 0), .ref np, .ref na, .int (nI (p2 10)), .ref nc, .int (nI ((sq p2 al cs bn (cq + 1)).2.length)), .ref nf, .ref nq, .ref no, .ref nx, .ref ny, .ref nl, .ref nh, .ref nb, .ref nw, .int pl, .ref nt, .int tl, .int av, .int wr, .long rs])), (np, .inl (ty.1, 10, .inl (zN p2))), (na, .inl (ty.2.2, 10, .inl (zB al))), (nc, .inl (ty.2.2, 16, .inl (zB cs))), (nf, .inl (ty.2.1, 2000, .inr (.inl fM5))), (nq, .inl (ty.1, 2000, .inl qM5)), (no, .inl (ty.1, 2000, .inl oM5)), (nx, .inl (ty.1, 2000, .inl aM5)), (ny, .inl (ty.1, 2000, .inl bM5)), (nl, .inl (ty.1, 1024, .inl lM5)), (nh, .inl (ty.1, 2000, .inl hM5)), (nb, .inl (ty.1, 8, .inl (upd (upd gM1 cq (nI (sq p2 al cs bn cq).2.length)) (cq + 1) (nI ((sq p2 al cs bn (cq + 1)).2.length)))))]) rfl dX6_search_174 ?_
                                  refine g_iinc C dX6_search_175 1 rfl (v := (nI (cq + 1))) (nI_1 cq) (by decide) (lv' := [(2, .int (nI (cq + 1))), (3, .int (nI op)), (0, .ref n0), (1, .int (nI bn))]) rfl ?_
                                  refine g_goto C dX6_search_178 (tgt := 50) (by decide) ?_
                                  refine g_lv [0, 2, 3] rfl ?_
                                  exact ih50 (cq + 1) fM5 qM5 oM5 aM5 bM5 lM5 hM5 (upd (upd gM1 cq (nI (sq p2 al cs bn cq).2.length)) (cq + 1) (nI ((sq p2 al cs bn (cq + 1)).2.length))) (by omega) (by omega) hwN (fun j hj => by by_cases q : j = cq; subst q; rw [pk_un (by omega), pk_us, sq_st]; rw [pk_un (by omega), pk_un q, sq_st_ne q]; exact ht j (by omega))
                                · skip
                                  have hpo := hp.1 op (by omega)
                                  refine g_aload_n C dX6_search_132 2 rfl rfl ?_
                                  refine g_get C 0 rfl rfl 2 (by decide) (fun _ h => (List.mem_cons_of_mem _ (List.mem_append_right _ h))) 8 rfl rfl rfl dX6_search_133 ?_
                                  refine g_iload_n C dX6_search_136 0 rfl rfl ?_
                                  refine g_zald C (v := (nI ((al op).toNat))) 2 rfl (by omega) (by omega) rfl dX6_search_137 ?_
                                  refine g_if_eqN C dX6_search_138 (tgt := 157) (by decide) (by omega) (fun h138 => ?_) (fun h138 => ?_)
                                  · skip
                                    have L157 : ∀ (n9 : Nat) (es6 : List Ent) (fM6 : Nat → Int64) (qM6 oM6 aM6 bM6 lM6 hM6 : Nat → Int32), 0 < n9 → (modOk es6 fM6 qM6 oM6 aM6 bM6 lM6 hM6) → ((sq p2 al cs bn cq).2.length ≤ es6.length) → (opsN p2 al (sq p2 al cs bn (cq + 1)).1 cq (10 - (op + 1)) (op + 1) es6 = mkC p2 al cs (sq p2 al cs bn (cq + 1)).1 cq (sq p2 al cs bn cq).2) → gG (g_IU A D s) p l e rm_t_X6_search s m args below meth c Q 4 0 0 157 [(3, .int (nI op)), (2, .int (nI cq)), (0, .ref n0), (1, .int (nI bn))] [] [(n0, .inr (5, [.int (nI 0), .ref np, .ref na, .int (nI (p2 10)), .ref nc, .int (nI es6.length), .ref nf, .ref nq, .ref no, .ref nx, .ref ny, .ref nl, .ref nh, .ref nb, .ref nw, .int pl, .ref nt, .int tl, .int av, .int wr, .long rs])), (np, .inl (ty.1, 10, .inl (zN p2))), (na, .inl (ty.2.2, 10, .inl (zB al))), (nc, .inl (ty.2.2, 16, .inl (zB cs))), (nf, .inl (ty.2.1, 2000, .inr (.inl fM6))), (nq, .inl (ty.1, 2000, .inl qM6)), (no, .inl (ty.1, 2000, .inl oM6)), (nx, .inl (ty.1, 2000, .inl aM6)), (ny, .inl (ty.1, 2000, .inl bM6)), (nl, .inl (ty.1, 1024, .inl lM6)), (nh, .inl (ty.1, 2000, .inl hM6)), (nb, .inl (ty.1, 8, .inl (upd gM1 cq (nI (sq p2 al cs bn cq).2.length))))] := by
                                      intro n9
                                      induction n9 with
                                      | zero => intro es6 fM6 qM6 oM6 aM6 bM6 lM6 hM6 hn; exact absurd hn (Nat.not_lt_zero _)
                                      | succ n9 ih157 =>
                                        intro es6 fM6 qM6 oM6 aM6 bM6 lM6 hM6 hn157 hw6 hl6 hT6
                                        refine g_iinc C dX6_search_157 0 rfl (v := (nI (op + 1))) (nI_1 op) (by decide) (lv' := [(3, .int (nI (op + 1))), (2, .int (nI cq)), (0, .ref n0), (1, .int (nI bn))]) rfl ?_
                                        refine g_goto C dX6_search_160 (tgt := 126) (by decide) ?_
                                        exact ih126 (op + 1) es6 fM6 qM6 oM6 aM6 bM6 lM6 hM6 (by omega) (by omega) hw6 hl6 hT6
                                    exact L157 _ es5 fM5 qM5 oM5 aM5 bM5 lM5 hM5 (Nat.lt_succ_self _) hw5 (by omega) (by rw [show 10 - op = (10 - (op + 1)) + 1 by omega] at hT2; rw [← hT2]; first | rfl | exact congrArg (opsN p2 al (sq p2 al cs bn (cq + 1)).1 cq (10 - (op + 1)) (op + 1)) (opN_no (fun q => absurd q.1 (b_f h138))).symm | exact congrArg (opsN p2 al (sq p2 al cs bn (cq + 1)).1 cq (10 - (op + 1)) (op + 1)) (opN_no (fun q => by omega)).symm)
                                  · skip
                                    refine g_aload_n C dX6_search_141 2 rfl rfl ?_
                                    refine g_get C 0 rfl rfl 1 (by decide) (fun _ h => (List.mem_cons_of_mem _ (List.mem_append_right _ h))) 9 rfl rfl rfl dX6_search_142 ?_
                                    refine g_iload_n C dX6_search_145 0 rfl rfl ?_
                                    refine g_iald C (v := (nI (p2 op))) 1 rfl (by omega) (by omega) rfl dX6_search_146 ?_
                                    refine g_iload_n C dX6_search_147 1 rfl rfl ?_
                                    refine g_icmp_gtN C dX6_search_148 (tgt := 157) (by decide) (by omega) (by omega) (fun h148 => ?_) (fun h148 => ?_)
                                    · skip
                                      have L157 : ∀ (n9 : Nat) (es6 : List Ent) (fM6 : Nat → Int64) (qM6 oM6 aM6 bM6 lM6 hM6 : Nat → Int32), 0 < n9 → (modOk es6 fM6 qM6 oM6 aM6 bM6 lM6 hM6) → ((sq p2 al cs bn cq).2.length ≤ es6.length) → (opsN p2 al (sq p2 al cs bn (cq + 1)).1 cq (10 - (op + 1)) (op + 1) es6 = mkC p2 al cs (sq p2 al cs bn (cq + 1)).1 cq (sq p2 al cs bn cq).2) → gG (g_IU A D s) p l e rm_t_X6_search s m args below meth c Q 4 0 0 157 [(3, .int (nI op)), (2, .int (nI cq)), (0, .ref n0), (1, .int (nI bn))] [] [(n0, .inr (5, [.int (nI 0), .ref np, .ref na, .int (nI (p2 10)), .ref nc, .int (nI es6.length), .ref nf, .ref nq, .ref no, .ref nx, .ref ny, .ref nl, .ref nh, .ref nb, .ref nw, .int pl, .ref nt, .int tl, .int av, .int wr, .long rs])), (np, .inl (ty.1, 10, .inl (zN p2))), (na, .inl (ty.2.2, 10, .inl (zB al))), (nc, .inl (ty.2.2, 16, .inl (zB cs))), (nf, .inl (ty.2.1, 2000, .inr (.inl fM6))), (nq, .inl (ty.1, 2000, .inl qM6)), (no, .inl (ty.1, 2000, .inl oM6)), (nx, .inl (ty.1, 2000, .inl aM6)), (ny, .inl (ty.1, 2000, .inl bM6)), (nl, .inl (ty.1, 1024, .inl lM6)), (nh, .inl (ty.1, 2000, .inl hM6)), (nb, .inl (ty.1, 8, .inl (upd gM1 cq (nI (sq p2 al cs bn cq).2.length))))] := by
                                        intro n9
                                        induction n9 with
                                        | zero => intro es6 fM6 qM6 oM6 aM6 bM6 lM6 hM6 hn; exact absurd hn (Nat.not_lt_zero _)
                                        | succ n9 ih157 =>
                                          intro es6 fM6 qM6 oM6 aM6 bM6 lM6 hM6 hn157 hw6 hl6 hT6
                                          refine g_iinc C dX6_search_157 0 rfl (v := (nI (op + 1))) (nI_1 op) (by decide) (lv' := [(3, .int (nI (op + 1))), (2, .int (nI cq)), (0, .ref n0), (1, .int (nI bn))]) rfl ?_
                                          refine g_goto C dX6_search_160 (tgt := 126) (by decide) ?_
                                          exact ih126 (op + 1) es6 fM6 qM6 oM6 aM6 bM6 lM6 hM6 (by omega) (by omega) hw6 hl6 hT6
                                      exact L157 _ es5 fM5 qM5 oM5 aM5 bM5 lM5 hM5 (Nat.lt_succ_self _) hw5 (by omega) (by rw [show 10 - op = (10 - (op + 1)) + 1 by omega] at hT2; rw [← hT2]; first | rfl | exact congrArg (opsN p2 al (sq p2 al cs bn (cq + 1)).1 cq (10 - (op + 1)) (op + 1)) (opN_no (fun q => absurd q.1 (b_f h138))).symm | exact congrArg (opsN p2 al (sq p2 al cs bn (cq + 1)).1 cq (10 - (op + 1)) (op + 1)) (opN_no (fun q => by omega)).symm)
                                    · skip
                                      refine g_aload_n C dX6_search_151 2 rfl rfl ?_
                                      refine g_iload_n C dX6_search_152 1 rfl rfl ?_
                                      refine g_iload_n C dX6_search_153 0 rfl rfl ?_
                                      refine g_callUV C ⟨g_X0_ok, trivial⟩ (t_X6_addAll l D ty n0 np na nc nf nq no nx ny nl nh nb nw nt (nI 0) (nI (p2 10)) pl tl av wr rs p2 (upd gM1 cq (nI (sq p2 al cs bn cq).2.length)) es5 fM5 qM5 oM5 aM5 bM5 lM5 hM5 hw5 (sq p2 al cs bn (cq + 1)).1 op cq (hs.len (by omega)) (by omega) (by omega) (by omega) (by omega)) rfl gX6_search_X6_addAll 2 (by decide +kernel) rfl ⟨rfl, rfl⟩ ⟨Nat.le_of_ble_eq_true rfl, Nat.le_of_ble_eq_true rfl⟩ (rest := []) (q0 := 0) rfl rfl hA [0, 1, 4, 5, 6, 7, 8, 9, 10, 11] [2, 3] rfl rfl rfl (wr := [(na, .inl (ty.2.2, 10, .inl (zB al))), (nc, .inl (ty.2.2, 16, .inl (zB cs)))]) rfl rfl rfl (Nat.le_of_ble_eq_true rfl) dX6_search_154 ⟨Nat.le_of_ble_eq_true rfl, Nat.le_of_ble_eq_true rfl⟩ rfl (g_kuv (fun w hr => ?_))
                                      obtain ⟨fM154, qM154, oM154, aM154, bM154, lM154, hM154, hw154, rfl⟩ := hr
                                      have he154 : (if 4 ≤ op then twoA op cq (sq p2 al cs bn (cq + 1)).1 (cq - p2 op) (cq - p2 op + 1) 0 es5 else oneN op cq ((sq p2 al cs bn (cq + 1)).1 (cq - p2 op + 1) - (sq p2 al cs bn (cq + 1)).1 (cq - p2 op)) ((sq p2 al cs bn (cq + 1)).1 (cq - p2 op)) es5) = (opN p2 al (sq p2 al cs bn (cq + 1)).1 cq op es5) := by
                                        by_cases q4 : 4 ≤ op
                                        · rw [if_pos q4, opN_two ⟨b_t h138, by omega⟩ q4]
                                        · rw [if_neg q4, opN_one ⟨b_t h138, by omega⟩ q4]
                                      rw [he154] at hw154 ⊢
                                      have hl154 := opN_len (p := p2) (al := al) (st := (sq p2 al cs bn (cq + 1)).1) (c := cq) (op := op) hw5.2.2.2.2
                                      refine g_ws (ws' := [(n0, .inr (5, [.int (nI 0), .ref np, .ref na, .int (nI (p2 10)), .ref nc, .int (nI ((opN p2 al (sq p2 al cs bn (cq + 1)).1 cq op es5).length)), .ref nf, .ref nq, .ref no, .ref nx, .ref ny, .ref nl, .ref nh, .ref nb, .ref nw, .int pl, .ref nt, .int tl, .int av, .int wr, .long rs])), (np, .inl (ty.1, 10, .inl (zN p2))), (na, .inl (ty.2.2, 10, .inl (zB al))), (nc, .inl (ty.2.2, 16, .inl (zB cs))), (nf, .inl (ty.2.1, 2000, .inr (.inl fM154))), (nq, .inl (ty.1, 2000, .inl qM154)), (no, .inl (ty.1, 2000, .inl oM154)), (nx, .inl (ty.1, 2000, .inl aM154)), (ny, .inl (ty.1, 2000, .inl bM154)), (nl, .inl (ty.1, 1024, .inl lM154)), (nh, .inl (ty.1, 2000, .inl hM154)), (nb, .inl (ty.1, 8, .inl (upd gM1 cq (nI (sq p2 al cs bn cq).2.length))))]) [2, 3, 0, 1, 4, 5, 6, 7, 8, 9, 10, 11] rfl rfl rfl ?_
                                      have L157 : ∀ (n9 : Nat) (es6 : List Ent) (fM6 : Nat → Int64) (qM6 oM6 aM6 bM6 lM6 hM6 : Nat → Int32), 0 < n9 → (modOk es6 fM6 qM6 oM6 aM6 bM6 lM6 hM6) → ((sq p2 al cs bn cq).2.length ≤ es6.length) → (opsN p2 al (sq p2 al cs bn (cq + 1)).1 cq (10 - (op + 1)) (op + 1) es6 = mkC p2 al cs (sq p2 al cs bn (cq + 1)).1 cq (sq p2 al cs bn cq).2) → gG (g_IU A D s) p l e rm_t_X6_search s m args below meth c Q 4 0 0 157 [(3, .int (nI op)), (2, .int (nI cq)), (0, .ref n0), (1, .int (nI bn))] [] [(n0, .inr (5, [.int (nI 0), .ref np, .ref na, .int (nI (p2 10)), .ref nc, .int (nI es6.length), .ref nf, .ref nq, .ref no, .ref nx, .ref ny, .ref nl, .ref nh, .ref nb, .ref nw, .int pl, .ref nt, .int tl, .int av, .int wr, .long rs])), (np, .inl (ty.1, 10, .inl (zN p2))), (na, .inl (ty.2.2, 10, .inl (zB al))), (nc, .inl (ty.2.2, 16, .inl (zB cs))), (nf, .inl (ty.2.1, 2000, .inr (.inl fM6))), (nq, .inl (ty.1, 2000, .inl qM6)), (no, .inl (ty.1, 2000, .inl oM6)), (nx, .inl (ty.1, 2000, .inl aM6)), (ny, .inl (ty.1, 2000, .inl bM6)), (nl, .inl (ty.1, 1024, .inl lM6)), (nh, .inl (ty.1, 2000, .inl hM6)), (nb, .inl (ty.1, 8, .inl (upd gM1 cq (nI (sq p2 al cs bn cq).2.length))))] := by
                                        intro n9
                                        induction n9 with
                                        | zero => intro es6 fM6 qM6 oM6 aM6 bM6 lM6 hM6 hn; exact absurd hn (Nat.not_lt_zero _)
                                        | succ n9 ih157 =>
                                          intro es6 fM6 qM6 oM6 aM6 bM6 lM6 hM6 hn157 hw6 hl6 hT6
                                          refine g_iinc C dX6_search_157 0 rfl (v := (nI (op + 1))) (nI_1 op) (by decide) (lv' := [(3, .int (nI (op + 1))), (2, .int (nI cq)), (0, .ref n0), (1, .int (nI bn))]) rfl ?_
                                          refine g_goto C dX6_search_160 (tgt := 126) (by decide) ?_
                                          exact ih126 (op + 1) es6 fM6 qM6 oM6 aM6 bM6 lM6 hM6 (by omega) (by omega) hw6 hl6 hT6
                                      exact L157 _ (opN p2 al (sq p2 al cs bn (cq + 1)).1 cq op es5) fM154 qM154 oM154 aM154 bM154 lM154 hM154 (Nat.lt_succ_self _) hw154 (by omega) (by rw [show 10 - op = (10 - (op + 1)) + 1 by omega] at hT2; rw [← hT2]; first | rfl | exact congrArg (opsN p2 al (sq p2 al cs bn (cq + 1)).1 cq (10 - (op + 1)) (op + 1)) (opN_no (fun q => absurd q.1 (b_f h138))).symm | exact congrArg (opsN p2 al (sq p2 al cs bn (cq + 1)).1 cq (10 - (op + 1)) (op + 1)) (opN_no (fun q => by omega)).symm)
                            exact L126 _ 0 es4 fM4 qM4 oM4 aM4 bM4 lM4 hM4 (Nat.lt_succ_self _) (by omega) hw4 hl4 (by rw [hE3]; rfl)
                          · skip
                            refine g_iload_n C dX6_search_88 1 rfl rfl ?_
                            refine g_aload_n C dX6_search_89 2 rfl rfl ?_
                            refine g_get C 0 rfl rfl 3 (by decide) (fun _ h => (List.mem_cons_of_mem _ (List.mem_append_right _ h))) 6 rfl rfl rfl dX6_search_90 ?_
                            refine g_icmp_neN C dX6_search_93 (tgt := 124) (by decide) (by omega) (by omega) (fun h93 => ?_) (fun h93 => ?_)
                            · skip
                              have hE3 : es4 = (mk1 p2 cs cq (mk0 cq (sq p2 al cs bn cq).2)) := hT1.2 h93
                              refine g_iconst C dX6_search_124 (v := (nI 0)) (by decide) ?_
                              refine g_istore_n C dX6_search_125 rfl (by decide) (lv' := [(3, .int (nI 0)), (2, .int (nI cq)), (0, .ref n0), (1, .int (nI bn))]) rfl ?_
                              have L126 : ∀ (n9 : Nat) (op : Nat) (es5 : List Ent) (fM5 : Nat → Int64) (qM5 oM5 aM5 bM5 lM5 hM5 : Nat → Int32), 10 - op < n9 → (op ≤ 10) → (modOk es5 fM5 qM5 oM5 aM5 bM5 lM5 hM5) → ((sq p2 al cs bn cq).2.length ≤ es5.length) → (opsN p2 al (sq p2 al cs bn (cq + 1)).1 cq (10 - op) op es5 = mkC p2 al cs (sq p2 al cs bn (cq + 1)).1 cq (sq p2 al cs bn cq).2) → gG (g_IU A D s) p l e rm_t_X6_search s m args below meth c Q 4 0 0 126 [(3, .int (nI op)), (2, .int (nI cq)), (0, .ref n0), (1, .int (nI bn))] [] [(n0, .inr (5, [.int (nI 0), .ref np, .ref na, .int (nI (p2 10)), .ref nc, .int (nI es5.length), .ref nf, .ref nq, .ref no, .ref nx, .ref ny, .ref nl, .ref nh, .ref nb, .ref nw, .int pl, .ref nt, .int tl, .int av, .int wr, .long rs])), (np, .inl (ty.1, 10, .inl (zN p2))), (na, .inl (ty.2.2, 10, .inl (zB al))), (nc, .inl (ty.2.2, 16, .inl (zB cs))), (nf, .inl (ty.2.1, 2000, .inr (.inl fM5))), (nq, .inl (ty.1, 2000, .inl qM5)), (no, .inl (ty.1, 2000, .inl oM5)), (nx, .inl (ty.1, 2000, .inl aM5)), (ny, .inl (ty.1, 2000, .inl bM5)), (nl, .inl (ty.1, 1024, .inl lM5)), (nh, .inl (ty.1, 2000, .inl hM5)), (nb, .inl (ty.1, 8, .inl (upd gM1 cq (nI (sq p2 al cs bn cq).2.length))))] := by
                                intro n9
                                induction n9 with
                                | zero => intro op es5 fM5 qM5 oM5 aM5 bM5 lM5 hM5 hn; exact absurd hn (Nat.not_lt_zero _)
                                | succ n9 ih126 =>
                                  intro op es5 fM5 qM5 oM5 aM5 bM5 lM5 hM5 hn126 ho hw5 hl5 hT2
                                  have hl5b := hw5.2.2.2.2
                                  have hbt := bt_lt (al op)
                                  refine g_iload_n C dX6_search_126 0 rfl rfl ?_
                                  refine g_bipush C dX6_search_127 (v := (nI 10)) (by decide) ?_
                                  refine g_icmp_geN C dX6_search_129 (tgt := 163) (by decide) (by omega) (by omega) (fun h129 => ?_) (fun h129 => ?_)
                                  · skip
                                    have hwN : modOk (sq p2 al cs bn (cq + 1)).2 fM5 qM5 oM5 aM5 bM5 lM5 hM5 := by rw [sq_in (show cq ≤ bn by omega), ← hT2, show 10 - op = 0 by omega]; exact hw5
                                    have hE5 : es5 = (sq p2 al cs bn (cq + 1)).2 := by rw [sq_in (show cq ≤ bn by omega), ← hT2, show 10 - op = 0 by omega]; rfl
                                    refine g_is (ws2 := [(n0, .inr (5, [.int (nI 0), .ref np, .ref na, .int (nI (p2 10)), .ref nc, .int (nI ((sq p2 al cs bn (cq + 1)).2.length)), .ref nf, .ref nq, .ref no, .ref nx, .ref ny, .ref nl, .ref nh, .ref nb, .ref nw, .int pl, .ref nt, .int tl, .int av, .int wr, .long rs])), (np, .inl (ty.1, 10, .inl (zN p2))), (na, .inl (ty.2.2, 10, .inl (zB al))), (nc, .inl (ty.2.2, 16, .inl (zB cs))), (nf, .inl (ty.2.1, 2000, .inr (.inl fM5))), (nq, .inl (ty.1, 2000, .inl qM5)), (no, .inl (ty.1, 2000, .inl oM5)), (nx, .inl (ty.1, 2000, .inl aM5)), (ny, .inl (ty.1, 2000, .inl bM5)), (nl, .inl (ty.1, 1024, .inl lM5)), (nh, .inl (ty.1, 2000, .inl hM5)), (nb, .inl (ty.1, 8, .inl (upd gM1 cq (nI (sq p2 al cs bn cq).2.length))))]) ?_ rfl rfl rfl (by rw [hE5])
                                    refine g_aload_n C dX6_search_163 2 rfl rfl ?_
                                    refine g_get C 0 rfl rfl 13 (by decide) (fun _ h => (List.mem_cons_of_mem _ (List.mem_append_right _ h))) 4 rfl rfl rfl dX6_search_164 ?_
                                    refine g_iload_n C dX6_search_167 1 rfl rfl ?_
                                    refine g_iconst C dX6_search_168 (v := (nI 1)) (by decide) ?_
                                    refine g_iadd C dX6_search_169 (v := (nI (cq + 1))) (nI_add _ _) ?_
                                    refine g_aload_n C dX6_search_170 2 rfl rfl ?_
                                    refine g_get C 0 rfl rfl 5 (by decide) (fun _ h => (List.mem_cons_of_mem _ (List.mem_append_right _ h))) 2 rfl rfl rfl dX6_search_171 ?_
                                    refine g_iast C 11 rfl (by omega) (by omega) (f' := upd (upd gM1 cq (nI (sq p2 al cs bn cq).2.length)) (cq + 1) (nI ((sq p2 al cs bn (cq + 1)).2.length))) rfl (ws' := [(n0, .inr (5, [.int (nI 0), .ref np, .ref na, .int (nI (p2 10)), .ref nc, .int (nI ((sq p2 al cs bn (cq + 1)).2.length)), .ref nf, .ref nq, .ref no, .ref nx, .ref ny, .ref nl, .ref nh, .ref nb, .ref nw, .int pl, .ref nt, .int tl, .int av, .int wr, .long rs])), (np, .inl (ty.1, 10, .inl (zN p2))), (na, .inl (ty.2.2, 10, .inl (zB al))), (nc, .inl (ty.2.2, 16, .inl (zB cs))), (nf, .inl (ty.2.1, 2000, .inr (.inl fM5))), (nq, .inl (ty.1, 2000, .inl qM5)), (no, .inl (ty.1, 2000, .inl oM5)), (nx, .inl (ty.1, 2000, .inl aM5)), (ny, .inl (ty.1, 2000, .inl bM5)), (nl, .inl (ty.1, 1024, .inl lM5)), (nh, .inl (ty.1, 2000, .inl hM5)), (nb, .inl (ty.1, 8, .inl (upd (upd gM1 cq (nI (sq p2 al cs bn cq).2.length)) (cq + 1) (nI ((sq p2 al cs bn (cq + 1)).2.length)))))]) rfl dX6_search_174 ?_
                                    refine g_iinc C dX6_search_175 1 rfl (v := (nI (cq + 1))) (nI_1 cq) (by decide) (lv' := [(2, .int (nI (cq + 1))), (3, .int (nI op)), (0, .ref n0), (1, .int (nI bn))]) rfl ?_
                                    refine g_goto C dX6_search_178 (tgt := 50) (by decide) ?_
                                    refine g_lv [0, 2, 3] rfl ?_
                                    exact ih50 (cq + 1) fM5 qM5 oM5 aM5 bM5 lM5 hM5 (upd (upd gM1 cq (nI (sq p2 al cs bn cq).2.length)) (cq + 1) (nI ((sq p2 al cs bn (cq + 1)).2.length))) (by omega) (by omega) hwN (fun j hj => by by_cases q : j = cq; subst q; rw [pk_un (by omega), pk_us, sq_st]; rw [pk_un (by omega), pk_un q, sq_st_ne q]; exact ht j (by omega))
                                  · skip
                                    have hpo := hp.1 op (by omega)
                                    refine g_aload_n C dX6_search_132 2 rfl rfl ?_
                                    refine g_get C 0 rfl rfl 2 (by decide) (fun _ h => (List.mem_cons_of_mem _ (List.mem_append_right _ h))) 8 rfl rfl rfl dX6_search_133 ?_
                                    refine g_iload_n C dX6_search_136 0 rfl rfl ?_
                                    refine g_zald C (v := (nI ((al op).toNat))) 2 rfl (by omega) (by omega) rfl dX6_search_137 ?_
                                    refine g_if_eqN C dX6_search_138 (tgt := 157) (by decide) (by omega) (fun h138 => ?_) (fun h138 => ?_)
                                    · skip
                                      have L157 : ∀ (n9 : Nat) (es6 : List Ent) (fM6 : Nat → Int64) (qM6 oM6 aM6 bM6 lM6 hM6 : Nat → Int32), 0 < n9 → (modOk es6 fM6 qM6 oM6 aM6 bM6 lM6 hM6) → ((sq p2 al cs bn cq).2.length ≤ es6.length) → (opsN p2 al (sq p2 al cs bn (cq + 1)).1 cq (10 - (op + 1)) (op + 1) es6 = mkC p2 al cs (sq p2 al cs bn (cq + 1)).1 cq (sq p2 al cs bn cq).2) → gG (g_IU A D s) p l e rm_t_X6_search s m args below meth c Q 4 0 0 157 [(3, .int (nI op)), (2, .int (nI cq)), (0, .ref n0), (1, .int (nI bn))] [] [(n0, .inr (5, [.int (nI 0), .ref np, .ref na, .int (nI (p2 10)), .ref nc, .int (nI es6.length), .ref nf, .ref nq, .ref no, .ref nx, .ref ny, .ref nl, .ref nh, .ref nb, .ref nw, .int pl, .ref nt, .int tl, .int av, .int wr, .long rs])), (np, .inl (ty.1, 10, .inl (zN p2))), (na, .inl (ty.2.2, 10, .inl (zB al))), (nc, .inl (ty.2.2, 16, .inl (zB cs))), (nf, .inl (ty.2.1, 2000, .inr (.inl fM6))), (nq, .inl (ty.1, 2000, .inl qM6)), (no, .inl (ty.1, 2000, .inl oM6)), (nx, .inl (ty.1, 2000, .inl aM6)), (ny, .inl (ty.1, 2000, .inl bM6)), (nl, .inl (ty.1, 1024, .inl lM6)), (nh, .inl (ty.1, 2000, .inl hM6)), (nb, .inl (ty.1, 8, .inl (upd gM1 cq (nI (sq p2 al cs bn cq).2.length))))] := by
                                        intro n9
                                        induction n9 with
                                        | zero => intro es6 fM6 qM6 oM6 aM6 bM6 lM6 hM6 hn; exact absurd hn (Nat.not_lt_zero _)
                                        | succ n9 ih157 =>
                                          intro es6 fM6 qM6 oM6 aM6 bM6 lM6 hM6 hn157 hw6 hl6 hT6
                                          refine g_iinc C dX6_search_157 0 rfl (v := (nI (op + 1))) (nI_1 op) (by decide) (lv' := [(3, .int (nI (op + 1))), (2, .int (nI cq)), (0, .ref n0), (1, .int (nI bn))]) rfl ?_
                                          refine g_goto C dX6_search_160 (tgt := 126) (by decide) ?_
                                          exact ih126 (op + 1) es6 fM6 qM6 oM6 aM6 bM6 lM6 hM6 (by omega) (by omega) hw6 hl6 hT6
                                      exact L157 _ es5 fM5 qM5 oM5 aM5 bM5 lM5 hM5 (Nat.lt_succ_self _) hw5 (by omega) (by rw [show 10 - op = (10 - (op + 1)) + 1 by omega] at hT2; rw [← hT2]; first | rfl | exact congrArg (opsN p2 al (sq p2 al cs bn (cq + 1)).1 cq (10 - (op + 1)) (op + 1)) (opN_no (fun q => absurd q.1 (b_f h138))).symm | exact congrArg (opsN p2 al (sq p2 al cs bn (cq + 1)).1 cq (10 - (op + 1)) (op + 1)) (opN_no (fun q => by omega)).symm)
                                    · skip
                                      refine g_aload_n C dX6_search_141 2 rfl rfl ?_
                                      refine g_get C 0 rfl rfl 1 (by decide) (fun _ h => (List.mem_cons_of_mem _ (List.mem_append_right _ h))) 9 rfl rfl rfl dX6_search_142 ?_
                                      refine g_iload_n C dX6_search_145 0 rfl rfl ?_
                                      refine g_iald C (v := (nI (p2 op))) 1 rfl (by omega) (by omega) rfl dX6_search_146 ?_
                                      refine g_iload_n C dX6_search_147 1 rfl rfl ?_
                                      refine g_icmp_gtN C dX6_search_148 (tgt := 157) (by decide) (by omega) (by omega) (fun h148 => ?_) (fun h148 => ?_)
                                      · skip
                                        have L157 : ∀ (n9 : Nat) (es6 : List Ent) (fM6 : Nat → Int64) (qM6 oM6 aM6 bM6 lM6 hM6 : Nat → Int32), 0 < n9 → (modOk es6 fM6 qM6 oM6 aM6 bM6 lM6 hM6) → ((sq p2 al cs bn cq).2.length ≤ es6.length) → (opsN p2 al (sq p2 al cs bn (cq + 1)).1 cq (10 - (op + 1)) (op + 1) es6 = mkC p2 al cs (sq p2 al cs bn (cq + 1)).1 cq (sq p2 al cs bn cq).2) → gG (g_IU A D s) p l e rm_t_X6_search s m args below meth c Q 4 0 0 157 [(3, .int (nI op)), (2, .int (nI cq)), (0, .ref n0), (1, .int (nI bn))] [] [(n0, .inr (5, [.int (nI 0), .ref np, .ref na, .int (nI (p2 10)), .ref nc, .int (nI es6.length), .ref nf, .ref nq, .ref no, .ref nx, .ref ny, .ref nl, .ref nh, .ref nb, .ref nw, .int pl, .ref nt, .int tl, .int av, .int wr, .long rs])), (np, .inl (ty.1, 10, .inl (zN p2))), (na, .inl (ty.2.2, 10, .inl (zB al))), (nc, .inl (ty.2.2, 16, .inl (zB cs))), (nf, .inl (ty.2.1, 2000, .inr (.inl fM6))), (nq, .inl (ty.1, 2000, .inl qM6)), (no, .inl (ty.1, 2000, .inl oM6)), (nx, .inl (ty.1, 2000, .inl aM6)), (ny, .inl (ty.1, 2000, .inl bM6)), (nl, .inl (ty.1, 1024, .inl lM6)), (nh, .inl (ty.1, 2000, .inl hM6)), (nb, .inl (ty.1, 8, .inl (upd gM1 cq (nI (sq p2 al cs bn cq).2.length))))] := by
                                          intro n9
                                          induction n9 with
                                          | zero => intro es6 fM6 qM6 oM6 aM6 bM6 lM6 hM6 hn; exact absurd hn (Nat.not_lt_zero _)
                                          | succ n9 ih157 =>
                                            intro es6 fM6 qM6 oM6 aM6 bM6 lM6 hM6 hn157 hw6 hl6 hT6
                                            refine g_iinc C dX6_search_157 0 rfl (v := (nI (op + 1))) (nI_1 op) (by decide) (lv' := [(3, .int (nI (op + 1))), (2, .int (nI cq)), (0, .ref n0), (1, .int (nI bn))]) rfl ?_
                                            refine g_goto C dX6_search_160 (tgt := 126) (by decide) ?_
                                            exact ih126 (op + 1) es6 fM6 qM6 oM6 aM6 bM6 lM6 hM6 (by omega) (by omega) hw6 hl6 hT6
                                        exact L157 _ es5 fM5 qM5 oM5 aM5 bM5 lM5 hM5 (Nat.lt_succ_self _) hw5 (by omega) (by rw [show 10 - op = (10 - (op + 1)) + 1 by omega] at hT2; rw [← hT2]; first | rfl | exact congrArg (opsN p2 al (sq p2 al cs bn (cq + 1)).1 cq (10 - (op + 1)) (op + 1)) (opN_no (fun q => absurd q.1 (b_f h138))).symm | exact congrArg (opsN p2 al (sq p2 al cs bn (cq + 1)).1 cq (10 - (op + 1)) (op + 1)) (opN_no (fun q => by omega)).symm)
                                      · skip
                                        refine g_aload_n C dX6_search_151 2 rfl rfl ?_
                                        refine g_iload_n C dX6_search_152 1 rfl rfl ?_
                                        refine g_iload_n C dX6_search_153 0 rfl rfl ?_
                                        refine g_callUV C ⟨g_X0_ok, trivial⟩ (t_X6_addAll l D ty n0 np na nc nf nq no nx ny nl nh nb nw nt (nI 0) (nI (p2 10)) pl tl av wr rs p2 (upd gM1 cq (nI (sq p2 al cs bn cq).2.length)) es5 fM5 qM5 oM5 aM5 bM5 lM5 hM5 hw5 (sq p2 al cs bn (cq + 1)).1 op cq (hs.len (by omega)) (by omega) (by omega) (by omega) (by omega)) rfl gX6_search_X6_addAll 2 (by decide +kernel) rfl ⟨rfl, rfl⟩ ⟨Nat.le_of_ble_eq_true rfl, Nat.le_of_ble_eq_true rfl⟩ (rest := []) (q0 := 0) rfl rfl hA [0, 1, 4, 5, 6, 7, 8, 9, 10, 11] [2, 3] rfl rfl rfl (wr := [(na, .inl (ty.2.2, 10, .inl (zB al))), (nc, .inl (ty.2.2, 16, .inl (zB cs)))]) rfl rfl rfl (Nat.le_of_ble_eq_true rfl) dX6_search_154 ⟨Nat.le_of_ble_eq_true rfl, Nat.le_of_ble_eq_true rfl⟩ rfl (g_kuv (fun w hr => ?_))
                                        obtain ⟨fM154, qM154, oM154, aM154, bM154, lM154, hM154, hw154, rfl⟩ := hr
                                        have he154 : (if 4 ≤ op then twoA op cq (sq p2 al cs bn (cq + 1)).1 (cq - p2 op) (cq - p2 op + 1) 0 es5 else oneN op cq ((sq p2 al cs bn (cq + 1)).1 (cq - p2 op + 1) - (sq p2 al cs bn (cq + 1)).1 (cq - p2 op)) ((sq p2 al cs bn (cq + 1)).1 (cq - p2 op)) es5) = (opN p2 al (sq p2 al cs bn (cq + 1)).1 cq op es5) := by
                                          by_cases q4 : 4 ≤ op
                                          · rw [if_pos q4, opN_two ⟨b_t h138, by omega⟩ q4]
                                          · rw [if_neg q4, opN_one ⟨b_t h138, by omega⟩ q4]
                                        rw [he154] at hw154 ⊢
                                        have hl154 := opN_len (p := p2) (al := al) (st := (sq p2 al cs bn (cq + 1)).1) (c := cq) (op := op) hw5.2.2.2.2
                                        refine g_ws (ws' := [(n0, .inr (5, [.int (nI 0), .ref np, .ref na, .int (nI (p2 10)), .ref nc, .int (nI ((opN p2 al (sq p2 al cs bn (cq + 1)).1 cq op es5).length)), .ref nf, .ref nq, .ref no, .ref nx, .ref ny, .ref nl, .ref nh, .ref nb, .ref nw, .int pl, .ref nt, .int tl, .int av, .int wr, .long rs])), (np, .inl (ty.1, 10, .inl (zN p2))), (na, .inl (ty.2.2, 10, .inl (zB al))), (nc, .inl (ty.2.2, 16, .inl (zB cs))), (nf, .inl (ty.2.1, 2000, .inr (.inl fM154))), (nq, .inl (ty.1, 2000, .inl qM154)), (no, .inl (ty.1, 2000, .inl oM154)), (nx, .inl (ty.1, 2000, .inl aM154)), (ny, .inl (ty.1, 2000, .inl bM154)), (nl, .inl (ty.1, 1024, .inl lM154)), (nh, .inl (ty.1, 2000, .inl hM154)), (nb, .inl (ty.1, 8, .inl (upd gM1 cq (nI (sq p2 al cs bn cq).2.length))))]) [2, 3, 0, 1, 4, 5, 6, 7, 8, 9, 10, 11] rfl rfl rfl ?_
                                        have L157 : ∀ (n9 : Nat) (es6 : List Ent) (fM6 : Nat → Int64) (qM6 oM6 aM6 bM6 lM6 hM6 : Nat → Int32), 0 < n9 → (modOk es6 fM6 qM6 oM6 aM6 bM6 lM6 hM6) → ((sq p2 al cs bn cq).2.length ≤ es6.length) → (opsN p2 al (sq p2 al cs bn (cq + 1)).1 cq (10 - (op + 1)) (op + 1) es6 = mkC p2 al cs (sq p2 al cs bn (cq + 1)).1 cq (sq p2 al cs bn cq).2) → gG (g_IU A D s) p l e rm_t_X6_search s m args below meth c Q 4 0 0 157 [(3, .int (nI op)), (2, .int (nI cq)), (0, .ref n0), (1, .int (nI bn))] [] [(n0, .inr (5, [.int (nI 0), .ref np, .ref na, .int (nI (p2 10)), .ref nc, .int (nI es6.length), .ref nf, .ref nq, .ref no, .ref nx, .ref ny, .ref nl, .ref nh, .ref nb, .ref nw, .int pl, .ref nt, .int tl, .int av, .int wr, .long rs])), (np, .inl (ty.1, 10, .inl (zN p2))), (na, .inl (ty.2.2, 10, .inl (zB al))), (nc, .inl (ty.2.2, 16, .inl (zB cs))), (nf, .inl (ty.2.1, 2000, .inr (.inl fM6))), (nq, .inl (ty.1, 2000, .inl qM6)), (no, .inl (ty.1, 2000, .inl oM6)), (nx, .inl (ty.1, 2000, .inl aM6)), (ny, .inl (ty.1, 2000, .inl bM6)), (nl, .inl (ty.1, 1024, .inl lM6)), (nh, .inl (ty.1, 2000, .inl hM6)), (nb, .inl (ty.1, 8, .inl (upd gM1 cq (nI (sq p2 al cs bn cq).2.length))))] := by
                                          intro n9
                                          induction n9 with
                                          | zero => intro es6 fM6 qM6 oM6 aM6 bM6 lM6 hM6 hn; exact absurd hn (Nat.not_lt_zero _)
                                          | succ n9 ih157 =>
                                            intro es6 fM6 qM6 oM6 aM6 bM6 lM6 hM6 hn157 hw6 hl6 hT6
                                            refine g_iinc C dX6_search_157 0 rfl (v := (nI (op + 1))) (nI_1 op) (by decide) (lv' := [(3, .int (nI (op + 1))), (2, .int (nI cq)), (0, .ref n0), (1, .int (nI bn))]) rfl ?_
                                            refine g_goto C dX6_search_160 (tgt := 126) (by decide) ?_
                                            exact ih126 (op + 1) es6 fM6 qM6 oM6 aM6 bM6 lM6 hM6 (by omega) (by omega) hw6 hl6 hT6
                                        exact L157 _ (opN p2 al (sq p2 al cs bn (cq + 1)).1 cq op es5) fM154 qM154 oM154 aM154 bM154 lM154 hM154 (Nat.lt_succ_self _) hw154 (by omega) (by rw [show 10 - op = (10 - (op + 1)) + 1 by omega] at hT2; rw [← hT2]; first | rfl | exact congrArg (opsN p2 al (sq p2 al cs bn (cq + 1)).1 cq (10 - (op + 1)) (op + 1)) (opN_no (fun q => absurd q.1 (b_f h138))).symm | exact congrArg (opsN p2 al (sq p2 al cs bn (cq + 1)).1 cq (10 - (op + 1)) (op + 1)) (opN_no (fun q => by omega)).symm)
                              exact L126 _ 0 es4 fM4 qM4 oM4 aM4 bM4 lM4 hM4 (Nat.lt_succ_self _) (by omega) hw4 hl4 (by rw [hE3]; rfl)
                            · skip
                              refine g_aload_n C dX6_search_96 2 rfl rfl ?_
                              refine g_get C 0 rfl rfl 4 (by decide) (fun _ h => (List.mem_cons_of_mem _ (List.mem_append_right _ h))) 7 rfl rfl rfl dX6_search_97 ?_
                              refine g_iload_n C dX6_search_100 0 rfl rfl ?_
                              refine g_zald C (v := (nI ((cs v).toNat))) 3 rfl (by omega) (by omega) rfl dX6_search_101 ?_
                              refine g_if_eqN C dX6_search_102 (tgt := 118) (by decide) (by omega) (fun h102 => ?_) (fun h102 => ?_)
                              · skip
                                refine g_iinc C dX6_search_118 0 rfl (v := (nI (v + 1))) (nI_1 v) (by decide) (lv' := [(3, .int (nI (v + 1))), (2, .int (nI cq)), (0, .ref n0), (1, .int (nI bn))]) rfl ?_
                                refine g_goto C dX6_search_121 (tgt := 82) (by decide) ?_
                                exact ih82 (v + 1) es4 fM4 qM4 oM4 aM4 bM4 lM4 hM4 (by omega) (by omega) hw4 (by omega) ⟨fun q => by have hT := hT1.1 q; rw [show 16 - v = (16 - (v + 1)) + 1 by omega] at hT; rw [← hT]; exact congrArg (coN cs cq (16 - (v + 1)) (v + 1)) (by first | exact (if_pos (b_t h102)).symm | exact (if_neg (b_f h102)).symm), fun q => absurd (by omega) q⟩
                              · skip
                                refine g_aload_n C dX6_search_105 2 rfl rfl ?_
                                refine g_iload_n C dX6_search_106 0 rfl rfl ?_
                                refine g_callPS C ⟨g_X0_ok, trivial⟩ (t_X6_constant l D ty v (by omega)) rfl gX6_search_X6_constant 1 (by decide +kernel) rfl ⟨rfl, rfl⟩ ⟨Nat.le_of_ble_eq_true rfl, Nat.le_of_ble_eq_true rfl⟩ (rest := [.ref n0]) [] rfl (Nat.le_of_ble_eq_true rfl) dX6_search_107 ⟨Nat.le_of_ble_eq_true rfl, Nat.le_of_ble_eq_true rfl⟩ rfl (g_kl (fun r hr => ?_))
                                subst hr
                                refine g_iload_n C dX6_search_110 1 rfl rfl ?_
                                refine g_bipush C dX6_search_111 (v := (-2)) (by decide) ?_
                                refine g_iload_n C dX6_search_113 0 rfl rfl ?_
                                refine g_iconst C dX6_search_114 (v := (-1)) (by decide) ?_
                                refine g_callUV C ⟨g_X0_ok, trivial⟩ (t_X6_add l D ty n0 np na nc nf nq no nx ny nl nh nb nw nt (nI 0) (nI (p2 10)) pl tl av wr rs es4 fM4 qM4 oM4 aM4 bM4 lM4 hM4 hw4 (kF v) cq (-2) (nI v) (-1)) rfl gX6_search_X6_add 5 (by decide +kernel) rfl ⟨rfl, rfl⟩ ⟨Nat.le_of_ble_eq_true rfl, Nat.le_of_ble_eq_true rfl⟩ (rest := []) (q0 := 0) rfl rfl hA [0, 4, 5, 6, 7, 8, 9, 10] [1, 2, 3, 11] rfl rfl rfl (wr := [(np, .inl (ty.1, 10, .inl (zN p2))), (na, .inl (ty.2.2, 10, .inl (zB al))), (nc, .inl (ty.2.2, 16, .inl (zB cs))), (nb, .inl (ty.1, 8, .inl (upd gM1 cq (nI (sq p2 al cs bn cq).2.length))))]) rfl rfl rfl (Nat.le_of_ble_eq_true rfl) dX6_search_115 ⟨Nat.le_of_ble_eq_true rfl, Nat.le_of_ble_eq_true rfl⟩ rfl (g_kuv (fun w hr => ?_))
                                obtain ⟨fM115, qM115, oM115, aM115, bM115, lM115, hM115, hw115, rfl⟩ := hr
                                have hl115 := addE_len (f := (kF v)) (c := cq) (o := (-2)) (a := (nI v)) (b := (-1)) hw4.2.2.2.2
                                refine g_ws (ws' := [(n0, .inr (5, [.int (nI 0), .ref np, .ref na, .int (nI (p2 10)), .ref nc, .int (nI ((addE (kF v) cq (-2) (nI v) (-1) es4).length)), .ref nf, .ref nq, .ref no, .ref nx, .ref ny, .ref nl, .ref nh, .ref nb, .ref nw, .int pl, .ref nt, .int tl, .int av, .int wr, .long rs])), (np, .inl (ty.1, 10, .inl (zN p2))), (na, .inl (ty.2.2, 10, .inl (zB al))), (nc, .inl (ty.2.2, 16, .inl (zB cs))), (nf, .inl (ty.2.1, 2000, .inr (.inl fM115))), (nq, .inl (ty.1, 2000, .inl qM115)), (no, .inl (ty.1, 2000, .inl oM115)), (nx, .inl (ty.1, 2000, .inl aM115)), (ny, .inl (ty.1, 2000, .inl bM115)), (nl, .inl (ty.1, 1024, .inl lM115)), (nh, .inl (ty.1, 2000, .inl hM115)), (nb, .inl (ty.1, 8, .inl (upd gM1 cq (nI (sq p2 al cs bn cq).2.length))))]) [4, 0, 1, 2, 5, 6, 7, 8, 9, 10, 11, 3] rfl rfl rfl ?_
                                refine g_iinc C dX6_search_118 0 rfl (v := (nI (v + 1))) (nI_1 v) (by decide) (lv' := [(3, .int (nI (v + 1))), (2, .int (nI cq)), (0, .ref n0), (1, .int (nI bn))]) rfl ?_
                                refine g_goto C dX6_search_121 (tgt := 82) (by decide) ?_
                                exact ih82 (v + 1) (addE (kF v) cq (-2) (nI v) (-1) es4) fM115 qM115 oM115 aM115 bM115 lM115 hM115 (by omega) (by omega) hw115 (by omega) ⟨fun q => by have hT := hT1.1 q; rw [show 16 - v = (16 - (v + 1)) + 1 by omega] at hT; rw [← hT]; exact congrArg (coN cs cq (16 - (v + 1)) (v + 1)) (by first | exact (if_pos (b_t h102)).symm | exact (if_neg (b_f h102)).symm), fun q => absurd (by omega) q⟩
                      exact L82 _ 0 es3 fM3 qM3 oM3 aM3 bM3 lM3 hM3 (Nat.lt_succ_self _) (by omega) hw3 hl3 ⟨fun q => by rw [← hE1]; exact (if_pos q).symm, fun q => by rw [← hE1]; exact (if_neg q).symm⟩
                  exact L80 _ (addE (-81985529216486896) 0 (-1) (-1) (-1) (sq p2 al cs bn cq).2) fM77 qM77 oM77 aM77 bM77 lM77 hM77 (Nat.lt_succ_self _) hw77 (by omega) (by first | exact (if_pos (show cq = 0 by omega)).symm | exact (if_neg (show ¬ cq = 0 by omega)).symm)
          exact L50 _ 0 fM qM oM aM bM lM9 hM gM (Nat.lt_succ_self _) (by omega) (mod_none (fun k hk => hf k (by omega))) (fun j hj => absurd hj (Nat.not_lt_zero j))
        · skip
          refine g_aload_n C dX6_search_35 1 rfl rfl ?_
          refine g_get C 0 rfl rfl 11 (by decide) (fun _ h => (List.mem_cons_of_mem _ (List.mem_append_right _ h))) 3 rfl rfl rfl dX6_search_36 ?_
          refine g_iload_n C dX6_search_39 0 rfl rfl ?_
          refine g_iconst C dX6_search_40 (v := (nI 0)) (by decide) ?_
          refine g_iast C 9 rfl (by omega) (by omega) (f' := upd lM9 i (nI 0)) rfl (ws' := [(n0, .inr (5, [.int (nI 0), .ref np, .ref na, .int (nI (p2 10)), .ref nc, .int (nI 0), .ref nf, .ref nq, .ref no, .ref nx, .ref ny, .ref nl, .ref nh, .ref nb, .ref nw, .int pl, .ref nt, .int tl, .int av, .int wr, .long rs])), (np, .inl (ty.1, 10, .inl (zN p2))), (na, .inl (ty.2.2, 10, .inl (zB al))), (nc, .inl (ty.2.2, 16, .inl (zB cs))), (nf, .inl (ty.2.1, 2000, .inr (.inl fM))), (nq, .inl (ty.1, 2000, .inl qM)), (no, .inl (ty.1, 2000, .inl oM)), (nx, .inl (ty.1, 2000, .inl aM)), (ny, .inl (ty.1, 2000, .inl bM)), (nl, .inl (ty.1, 1024, .inl (upd lM9 i (nI 0)))), (nh, .inl (ty.1, 2000, .inl hM)), (nb, .inl (ty.1, 8, .inl gM))]) rfl dX6_search_41 ?_
          refine g_iinc C dX6_search_42 0 rfl (v := (nI (i + 1))) (nI_1 i) (by decide) (lv' := [(2, .int (nI (i + 1))), (0, .ref n0), (1, .int (nI bn))]) rfl ?_
          refine g_goto C dX6_search_45 (tgt := 28) (by decide) ?_
          exact ih28 (i + 1) _ (by omega) (by omega) (fun k hk => by rcases Nat.lt_or_ge k i with q | q; exact (pk_un (by omega)).trans (hf k q); rw [show k = i by omega]; exact pk_us.trans nI_0)
    exact L28 _ 0 lM (Nat.lt_succ_self _) (by omega) (fun k hk => absurd hk (Nat.not_lt_zero k))
  · skip
    have hno := in_no (by decide) h12
    refine g_aload_n C dX6_search_15 0 rfl rfl ?_
    refine g_iconst C dX6_search_16 (v := (nI 1)) (by decide) ?_
    refine g_callUV C ⟨g_X0_ok, trivial⟩ (t_X6_no l D ty n0 np na nc nf nq no nx ny nl nh nb nw nt (nI 0) (nI (p2 10)) pl tl av wr rs (nI es.length) (nI 1)) rfl gX6_search_X6_no 1 (by decide +kernel) rfl ⟨rfl, rfl⟩ ⟨Nat.le_of_ble_eq_true rfl, Nat.le_of_ble_eq_true rfl⟩ (rest := []) (q0 := 0) rfl rfl hA [0] [1, 2, 3, 4, 5, 6, 7, 8, 9, 10, 11] rfl rfl rfl (wr := [(np, .inl (ty.1, 10, .inl (zN p2))), (na, .inl (ty.2.2, 10, .inl (zB al))), (nc, .inl (ty.2.2, 16, .inl (zB cs))), (nf, .inl (ty.2.1, 2000, .inr (.inl fM))), (nq, .inl (ty.1, 2000, .inl qM)), (no, .inl (ty.1, 2000, .inl oM)), (nx, .inl (ty.1, 2000, .inl aM)), (ny, .inl (ty.1, 2000, .inl bM)), (nl, .inl (ty.1, 1024, .inl lM)), (nh, .inl (ty.1, 2000, .inl hM)), (nb, .inl (ty.1, 8, .inl gM))]) rfl rfl rfl (Nat.le_of_ble_eq_true rfl) dX6_search_17 ⟨Nat.le_of_ble_eq_true rfl, Nat.le_of_ble_eq_true rfl⟩ rfl (g_kui (fun r w hr => ?_))
    obtain ⟨rfl, rfl⟩ := hr
    refine g_ws (ws' := [(n0, .inr (5, [.int (nI 1), .ref np, .ref na, .int (nI (p2 10)), .ref nc, .int (nI es.length), .ref nf, .ref nq, .ref no, .ref nx, .ref ny, .ref nl, .ref nh, .ref nb, .ref nw, .int pl, .ref nt, .int tl, .int av, .int wr, .long rs])), (np, .inl (ty.1, 10, .inl (zN p2))), (na, .inl (ty.2.2, 10, .inl (zB al))), (nc, .inl (ty.2.2, 16, .inl (zB cs))), (nf, .inl (ty.2.1, 2000, .inr (.inl fM))), (nq, .inl (ty.1, 2000, .inl qM)), (no, .inl (ty.1, 2000, .inl oM)), (nx, .inl (ty.1, 2000, .inl aM)), (ny, .inl (ty.1, 2000, .inl bM)), (nl, .inl (ty.1, 1024, .inl lM)), (nh, .inl (ty.1, 2000, .inl hM)), (nb, .inl (ty.1, 8, .inl gM))]) [11, 0, 1, 2, 3, 4, 5, 6, 7, 8, 9, 10] rfl rfl rfl ?_
    refine hR _ _ _ _ _ _ dX6_search_20 ?_ (by omega) (by omega)
    exact Or.inr ⟨hno, rfl, rfl⟩


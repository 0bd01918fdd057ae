/-! what stands at the start of the law: statics, strings, links of nest mates -/
theorem in_M : ∀ k, k < 9 → Cond.methodLinkNest (x_M k).1 (x_M k).2.1 (x_M k).2.2 RX5 ∈ lw_tbl := by
  intro k hk
  rcases (show k = 0 ∨ k = 1 ∨ k = 2 ∨ k = 3 ∨ k = 4 ∨ k = 5 ∨ k = 6 ∨ k = 7 ∨ k = 8 by omega) with rfl | rfl | rfl | rfl | rfl | rfl | rfl | rfl | rfl
  · exact List.mem_of_getElem? (i := 130) (by decide +kernel)
  · exact List.mem_of_getElem? (i := 145) (by decide +kernel)
  · exact List.mem_of_getElem? (i := 321) (by decide +kernel)
  · exact List.mem_of_getElem? (i := 333) (by decide +kernel)
  · exact List.mem_of_getElem? (i := 342) (by decide +kernel)
  · exact List.mem_of_getElem? (i := 588) (by decide +kernel)
  · exact List.mem_of_getElem? (i := 669) (by decide +kernel)
  · exact List.mem_of_getElem? (i := 682) (by decide +kernel)
  · exact List.mem_of_getElem? (i := 689) (by decide +kernel)
theorem in_F : ∀ k, k < 2 → Cond.fieldLinkNest (x_F k).1 (x_F k).2 RX5 "SIGNS" "[C" RX5 ∈ lw_tbl := by
  intro k hk
  rcases (show k = 0 ∨ k = 1 by omega) with rfl | rfl
  · exact List.mem_of_getElem? (i := 279) (by decide +kernel)
  · exact List.mem_of_getElem? (i := 688) (by decide +kernel)
theorem in_Ca : ∀ k, k < 3 → Cond.castable (x_T k).2 (x_T k).2 ∈ lw_tbl := by
  intro k hk
  rcases (show k = 0 ∨ k = 1 ∨ k = 2 by omega) with rfl | rfl | rfl
  · exact List.mem_of_getElem? (i := 357) (by decide +kernel)
  · exact List.mem_of_getElem? (i := 436) (by decide +kernel)
  · exact List.mem_of_getElem? (i := 501) (by decide +kernel)
theorem in_S : ∀ k, k < 15 → Cond.stringRef RX5 (x_S k).1 (x_S k).2 ∈ lw_tbl := by
  intro k hk
  rcases (show k = 0 ∨ k = 1 ∨ k = 2 ∨ k = 3 ∨ k = 4 ∨ k = 5 ∨ k = 6 ∨ k = 7 ∨ k = 8 ∨ k = 9 ∨ k = 10 ∨ k = 11 ∨ k = 12 ∨ k = 13 ∨ k = 14 by omega) with rfl | rfl | rfl | rfl | rfl | rfl | rfl | rfl | rfl | rfl | rfl | rfl | rfl | rfl | rfl
  · exact List.mem_of_getElem? (i := 396) (by decide +kernel)
  · exact List.mem_of_getElem? (i := 443) (by decide +kernel)
  · exact List.mem_of_getElem? (i := 460) (by decide +kernel)
  · exact List.mem_of_getElem? (i := 468) (by decide +kernel)
  · exact List.mem_of_getElem? (i := 508) (by decide +kernel)
  · exact List.mem_of_getElem? (i := 536) (by decide +kernel)
  · exact List.mem_of_getElem? (i := 553) (by decide +kernel)
  · exact List.mem_of_getElem? (i := 564) (by decide +kernel)
  · exact List.mem_of_getElem? (i := 607) (by decide +kernel)
  · exact List.mem_of_getElem? (i := 620) (by decide +kernel)
  · exact List.mem_of_getElem? (i := 629) (by decide +kernel)
  · exact List.mem_of_getElem? (i := 638) (by decide +kernel)
  · exact List.mem_of_getElem? (i := 697) (by decide +kernel)
  · exact List.mem_of_getElem? (i := 705) (by decide +kernel)
  · exact List.mem_of_getElem? (i := 717) (by decide +kernel)
theorem vk_ex {own tx : String} {k : Nat} {args : Array Value} {s : State} (h : (Cond.stringRef own k tx).before args s = true) : ∃ a, vk_R own k tx a s := by
  have hcur : ∃ cur, s.vm.findClass own = some cur := by
    have h1 := h
    simp only [Cond.before, Cond.holds, Cond.value] at h1
    cases hc : s.vm.findClass own with
    | none => simp [hc] at h1
    | some cur => exact ⟨cur, rfl⟩
  obtain ⟨cur, hcur⟩ := hcur
  obtain ⟨k9, cf, i, a, -, -, -, -, -, hev⟩ := Cond.stringRef_spec hcur h
  exact ⟨a, vk_R.of h hev⟩
theorem eq_ev {args : Array Value} {s : State} {t : Term} {z : Int32} (h : (Cond.eq t (.int z)).before args s = true) : t.eval args s none [] s = some (.int z) := by
  cases hv : t.eval args s none [] s with
  | none => simp [Cond.before, Cond.holds, Cond.value, hv] at h
  | some w =>
    have hz : (Term.int z).eval args s none [] s = some (.int z) := rfl
    simp only [Cond.before, Cond.holds, Cond.value, hv, hz] at h
    cases w <;> simp_all
theorem sg_c {args : Array Value} {s : State} (hts : ∀ w ∈ lw_tbl, w.before args s = true) (hgv : (Jvm.Cond.and given_1 narrow_1).before args s = true) : x_sg RX5 "[C" .char (fun q => s.heap.size ≤ q) s := by
  have hA : ∀ a : Nat, a < s.heap.size → ¬ s.heap.size ≤ a := fun a h => Nat.not_le.mpr h
  have hs := flat_of_before _ hgv
  obtain ⟨t, h1, h2⟩ := va_Tof (tm := .static RX5 "SIGNS" "[C") (ty := .char) (N := 10) (f := fun j => .int (nI (sgn j))) (A := fun q => s.heap.size ≤ q) (by decide) (hs _ (by decide +kernel)) (eq_ev (hs _ (by decide +kernel))) (fun j hj => by
    rcases (show j = 0 ∨ j = 1 ∨ j = 2 ∨ j = 3 ∨ j = 4 ∨ j = 5 ∨ j = 6 ∨ j = 7 ∨ j = 8 ∨ j = 9 by omega) with rfl | rfl | rfl | rfl | rfl | rfl | rfl | rfl | rfl | rfl
    · exact eq_ev (t := .elem (.static RX5 "SIGNS" "[C") (.int 0)) (z := 126) (hs _ (by decide +kernel))
    · exact eq_ev (t := .elem (.static RX5 "SIGNS" "[C") (.int 1)) (z := 45) (hs _ (by decide +kernel))
    · exact eq_ev (t := .elem (.static RX5 "SIGNS" "[C") (.int 2)) (z := 60) (hs _ (by decide +kernel))
    · exact eq_ev (t := .elem (.static RX5 "SIGNS" "[C") (.int 3)) (z := 62) (hs _ (by decide +kernel))
    · exact eq_ev (t := .elem (.static RX5 "SIGNS" "[C") (.int 4)) (z := 38) (hs _ (by decide +kernel))
    · exact eq_ev (t := .elem (.static RX5 "SIGNS" "[C") (.int 5)) (z := 124) (hs _ (by decide +kernel))
    · exact eq_ev (t := .elem (.static RX5 "SIGNS" "[C") (.int 6)) (z := 94) (hs _ (by decide +kernel))
    · exact eq_ev (t := .elem (.static RX5 "SIGNS" "[C") (.int 7)) (z := 43) (hs _ (by decide +kernel))
    · exact eq_ev (t := .elem (.static RX5 "SIGNS" "[C") (.int 8)) (z := 45) (hs _ (by decide +kernel))
    · exact eq_ev (t := .elem (.static RX5 "SIGNS" "[C") (.int 9)) (z := 42) (hs _ (by decide +kernel))) hA
  exact ⟨t, va_Zof (hts _ (List.mem_of_getElem? (i := 280) (by decide +kernel))) (hts _ (List.mem_of_getElem? (i := 36) (by decide +kernel))) h1 hA, h2⟩
theorem sg_i {args : Array Value} {s : State} (hts : ∀ w ∈ lw_tbl, w.before args s = true) (hgv : (Jvm.Cond.and given_1 narrow_1).before args s = true) : x_sg RX6 "[I" .int (fun q => s.heap.size ≤ q) s := by
  have hA : ∀ a : Nat, a < s.heap.size → ¬ s.heap.size ≤ a := fun a h => Nat.not_le.mpr h
  have hs := flat_of_before _ hgv
  obtain ⟨t, h1, h2⟩ := va_Tof (tm := .static RX6 "SIGNS" "[I") (ty := .int) (N := 10) (f := fun j => .int (nI (sgn j))) (A := fun q => s.heap.size ≤ q) (by decide) (hs _ (by decide +kernel)) (eq_ev (hs _ (by decide +kernel))) (fun j hj => by
    rcases (show j = 0 ∨ j = 1 ∨ j = 2 ∨ j = 3 ∨ j = 4 ∨ j = 5 ∨ j = 6 ∨ j = 7 ∨ j = 8 ∨ j = 9 by omega) with rfl | rfl | rfl | rfl | rfl | rfl | rfl | rfl | rfl | rfl
    · exact eq_ev (t := .elem (.static RX6 "SIGNS" "[I") (.int 0)) (z := 126) (hs _ (by decide +kernel))
    · exact eq_ev (t := .elem (.static RX6 "SIGNS" "[I") (.int 1)) (z := 45) (hs _ (by decide +kernel))
    · exact eq_ev (t := .elem (.static RX6 "SIGNS" "[I") (.int 2)) (z := 60) (hs _ (by decide +kernel))
    · exact eq_ev (t := .elem (.static RX6 "SIGNS" "[I") (.int 3)) (z := 62) (hs _ (by decide +kernel))
    · exact eq_ev (t := .elem (.static RX6 "SIGNS" "[I") (.int 4)) (z := 38) (hs _ (by decide +kernel))
    · exact eq_ev (t := .elem (.static RX6 "SIGNS" "[I") (.int 5)) (z := 124) (hs _ (by decide +kernel))
    · exact eq_ev (t := .elem (.static RX6 "SIGNS" "[I") (.int 6)) (z := 94) (hs _ (by decide +kernel))
    · exact eq_ev (t := .elem (.static RX6 "SIGNS" "[I") (.int 7)) (z := 43) (hs _ (by decide +kernel))
    · exact eq_ev (t := .elem (.static RX6 "SIGNS" "[I") (.int 8)) (z := 45) (hs _ (by decide +kernel))
    · exact eq_ev (t := .elem (.static RX6 "SIGNS" "[I") (.int 9)) (z := 42) (hs _ (by decide +kernel))) hA
  exact ⟨t, va_Zof (hts _ (List.mem_of_getElem? (i := 953) (by decide +kernel))) (hts _ (List.mem_of_getElem? (i := 42) (by decide +kernel))) h1 hA, h2⟩
theorem law_XT {args : Array Value} {s : State} (hts : ∀ w ∈ lw_tbl, w.before args s = true) (hgv : (Jvm.Cond.and given_1 narrow_1).before args s = true) : g_XT (fun q => s.heap.size ≤ q) s := by
  have hA : ∀ a : Nat, a < s.heap.size → ¬ s.heap.size ≤ a := fun a h => Nat.not_le.mpr h
  have hs := flat_of_before _ hgv
  refine ⟨⟨fun k hk => va_Nw.of rfl (hts _ (in_M k hk)), fun k hk => va_Nw.of rfl (hts _ (in_F k hk)), sg_c hts hgv, sg_i hts hgv⟩, fun k hk => va_Nw.of rfl (hts _ (in_Ca k hk)), fun k hk => vk_ex (hts _ (in_S k hk)), vx_Zqof (hts _ (List.mem_of_getElem? (i := 382) (by decide +kernel))) (hts _ (List.mem_of_getElem? (i := 43) (by decide +kernel))) (hs _ (by decide +kernel)) hA, vx_Zqof (hts _ (List.mem_of_getElem? (i := 384) (by decide +kernel))) (hts _ (List.mem_of_getElem? (i := 43) (by decide +kernel))) (hs _ (by decide +kernel)) hA, va_Nc.of (hs _ (by decide +kernel)), ?_⟩
  refine List.forall_mem_cons.mpr ⟨va_Nw.of rfl (hts _ (List.mem_of_getElem? (i := 359) (by decide +kernel))), List.forall_mem_cons.mpr ⟨va_Nw.of rfl (hts _ (List.mem_of_getElem? (i := 361) (by decide +kernel))), List.forall_mem_cons.mpr ⟨va_Nw.of rfl (hts _ (List.mem_of_getElem? (i := 363) (by decide +kernel))), fun _ h => absurd h List.not_mem_nil⟩⟩⟩
theorem ac_int {args : Array Value} {s : State} (h : (Cond.arrayClass .int).before args s = true) : ∃ cA, ArrOfT s cA .int ∧ va_RA s cA .int := by
  obtain ⟨c, k, comp, h1, h2, h3⟩ := Cond.arrayClass_spec h
  exact ⟨c, fun n z => ⟨fun q h => (by cases h), k, h2, comp, h3⟩, h1⟩
theorem ac_long {args : Array Value} {s : State} (h : (Cond.arrayClass .long).before args s = true) : ∃ cA, ArrOfT s cA .long ∧ va_RA s cA .long := by
  obtain ⟨c, k, comp, h1, h2, h3⟩ := Cond.arrayClass_spec h
  exact ⟨c, fun n z => ⟨fun q h => (by cases h), k, h2, comp, h3⟩, h1⟩
theorem ac_boolean {args : Array Value} {s : State} (h : (Cond.arrayClass .boolean).before args s = true) : ∃ cA, ArrOfT s cA .boolean ∧ va_RA s cA .boolean := by
  obtain ⟨c, k, comp, h1, h2, h3⟩ := Cond.arrayClass_spec h
  exact ⟨c, fun n z => ⟨fun q h => (by cases h), k, h2, comp, h3⟩, h1⟩
theorem law_K {args : Array Value} {s : State} (hts : ∀ w ∈ lw_tbl, w.before args s = true) : ∃ (D : va_G) (ty : g_T3), va_K D vwCl (g_ty ty) s := by
  obtain ⟨c1, iS1, hK1⟩ := u_known (C := RX1) (T := TX1) (N := 2) (n := 2) hts in_wsX10 (hts _ (List.mem_of_getElem? (i := 129) (by decide +kernel)))
  obtain ⟨c2, iS2, hK2⟩ := u_known (C := RX2) (T := TX2) (N := 8) (n := 8) hts in_wsX20 (hts _ (List.mem_of_getElem? (i := 88) (by decide +kernel)))
  obtain ⟨c3, iS3, hK3⟩ := u_known (C := RX3) (T := TX3) (N := 3) (n := 3) hts in_wsX30 (hts _ (List.mem_of_getElem? (i := 61) (by decide +kernel)))
  obtain ⟨c4, iS4, hK4⟩ := u_known (C := RX4) (T := TX4) (N := 5) (n := 5) hts in_wsX40 (hts _ (List.mem_of_getElem? (i := 144) (by decide +kernel)))
  obtain ⟨c5, iS5, hK5⟩ := u_known (C := RX5) (T := TX5) (N := 4) (n := 4) hts in_wsX50 (hts _ (List.mem_of_getElem? (i := 53) (by decide +kernel)))
  obtain ⟨c6, iS6, hK6⟩ := u_known (C := RX6) (T := TX6) (N := 21) (n := 21) hts in_wsX60 (hts _ (List.mem_of_getElem? (i := 719) (by decide +kernel)))
  obtain ⟨a_int, hA_int⟩ := ac_int (hts _ (List.mem_of_getElem? (i := 85) (by decide +kernel)))
  obtain ⟨a_long, hA_long⟩ := ac_long (hts _ (List.mem_of_getElem? (i := 127) (by decide +kernel)))
  obtain ⟨a_boolean, hA_boolean⟩ := ac_boolean (hts _ (List.mem_of_getElem? (i := 86) (by decide +kernel)))
  refine ⟨(fun k => match k with | 0 => c1 | 1 => c2 | 2 => c3 | 3 => c4 | 4 => c5 | _ => c6, fun k => match k with | 0 => iS1 | 1 => iS2 | 2 => iS3 | 3 => iS4 | 4 => iS5 | _ => iS6), (a_int, a_long, a_boolean), ?_, ?_⟩
  · intro k q hq
    match k, hq with
    | 0, hq => cases hq; exact hK1
    | 1, hq => cases hq; exact hK2
    | 2, hq => cases hq; exact hK3
    | 3, hq => cases hq; exact hK4
    | 4, hq => cases hq; exact hK5
    | 5, hq => cases hq; exact hK6
    | k + 6, hq => simp [vwCl] at hq
  · intro k q hq
    match k, hq with
    | 0, hq => cases hq; exact hA_int
    | 1, hq => cases hq; exact hA_long
    | 2, hq => cases hq; exact hA_boolean
    | k + 3, hq => simp [g_ty] at hq

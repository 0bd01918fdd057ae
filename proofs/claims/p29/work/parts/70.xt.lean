/-! what stands at the start of the law: statics, strings, links of nest mates -/
theorem in_M : ∀ k, k < 3 → Cond.methodLinkNest (x_M k).1 (x_M k).2.1 (x_M k).2.2 RX5 ∈ lw_tbl := by
  intro k hk
  rcases (show k = 0 ∨ k = 1 ∨ k = 2 by omega) with rfl | rfl | rfl
  · exact List.mem_of_getElem? (i := 99) (by decide +kernel)
  · exact List.mem_of_getElem? (i := 111) (by decide +kernel)
  · exact List.mem_of_getElem? (i := 358) (by decide +kernel)
theorem in_Ca : ∀ k, k < 3 → Cond.castable (x_T k).2 (x_T k).2 ∈ lw_tbl := by
  intro k hk
  rcases (show k = 0 ∨ k = 1 ∨ k = 2 by omega) with rfl | rfl | rfl
  · exact List.mem_of_getElem? (i := 149) (by decide +kernel)
  · exact List.mem_of_getElem? (i := 224) (by decide +kernel)
  · exact List.mem_of_getElem? (i := 275) (by decide +kernel)
theorem in_S : ∀ k, k < 10 → Cond.stringRef RX5 (x_S k).1 (x_S k).2 ∈ lw_tbl := by
  intro k hk
  rcases (show k = 0 ∨ k = 1 ∨ k = 2 ∨ k = 3 ∨ k = 4 ∨ k = 5 ∨ k = 6 ∨ k = 7 ∨ k = 8 ∨ k = 9 by omega) with rfl | rfl | rfl | rfl | rfl | rfl | rfl | rfl | rfl | rfl
  · exact List.mem_of_getElem? (i := 188) (by decide +kernel)
  · exact List.mem_of_getElem? (i := 231) (by decide +kernel)
  · exact List.mem_of_getElem? (i := 245) (by decide +kernel)
  · exact List.mem_of_getElem? (i := 282) (by decide +kernel)
  · exact List.mem_of_getElem? (i := 316) (by decide +kernel)
  · exact List.mem_of_getElem? (i := 324) (by decide +kernel)
  · exact List.mem_of_getElem? (i := 392) (by decide +kernel)
  · exact List.mem_of_getElem? (i := 405) (by decide +kernel)
  · exact List.mem_of_getElem? (i := 414) (by decide +kernel)
  · exact List.mem_of_getElem? (i := 428) (by decide +kernel)
theorem vk_ex {own tx : String} {k : Nat} {args : Array Value} {s : State} (h : (Cond.stringRef own k tx).before args s = true) : ∃ a, vk_R own k tx a s := by
  have hcur : ∃ cur, s.vm.findClass own = some cur := by
    have h1 := h
    simp only [Cond.before, Cond.holds, Cond.value] at h1
    cases hc : s.vm.findClass own with
    | none => simp [hc] at h1
    | some cur => exact ⟨cur, rfl⟩
  obtain ⟨cur, hcur⟩ := hcur
  obtain ⟨k9, cf, i, a, -, -, -, -, -, hev⟩ := Cond.stringRef_spec hcur h
  exact ⟨a, vk_R.of h hev⟩
theorem law_XT {args : Array Value} {s : State} (hts : ∀ w ∈ lw_tbl, w.before args s = true) (hgv : (Jvm.Cond.and given_1 narrow_1).before args s = true) : g_XT (fun q => s.heap.size ≤ q) s := by
  have hA : ∀ a : Nat, a < s.heap.size → ¬ s.heap.size ≤ a := fun a h => Nat.not_le.mpr h
  have hs := flat_of_before _ hgv
  refine ⟨⟨fun k hk => va_Nw.of rfl (hts _ (in_M k hk)), trivial⟩, fun k hk => va_Nw.of rfl (hts _ (in_Ca k hk)), fun k hk => vk_ex (hts _ (in_S k hk)), vx_Zqof (hts _ (List.mem_of_getElem? (i := 174) (by decide +kernel))) (hts _ (List.mem_of_getElem? (i := 15) (by decide +kernel))) (hs _ (by decide +kernel)) hA, vx_Zqof (hts _ (List.mem_of_getElem? (i := 176) (by decide +kernel))) (hts _ (List.mem_of_getElem? (i := 15) (by decide +kernel))) (hs _ (by decide +kernel)) hA, trivial, ?_⟩
  refine List.forall_mem_cons.mpr ⟨va_Nw.of rfl (hts _ (List.mem_of_getElem? (i := 151) (by decide +kernel))), List.forall_mem_cons.mpr ⟨va_Nw.of rfl (hts _ (List.mem_of_getElem? (i := 153) (by decide +kernel))), List.forall_mem_cons.mpr ⟨va_Nw.of rfl (hts _ (List.mem_of_getElem? (i := 155) (by decide +kernel))), fun _ h => absurd h List.not_mem_nil⟩⟩⟩
theorem ac_int {args : Array Value} {s : State} (h : (Cond.arrayClass .int).before args s = true) : ∃ cA, ArrOfT s cA .int ∧ va_RA s cA .int := by
  obtain ⟨c, k, comp, h1, h2, h3⟩ := Cond.arrayClass_spec h
  exact ⟨c, fun n z => ⟨fun q h => (by cases h), k, h2, comp, h3⟩, h1⟩
theorem ac_long {args : Array Value} {s : State} (h : (Cond.arrayClass .long).before args s = true) : ∃ cA, ArrOfT s cA .long ∧ va_RA s cA .long := by
  obtain ⟨c, k, comp, h1, h2, h3⟩ := Cond.arrayClass_spec h
  exact ⟨c, fun n z => ⟨fun q h => (by cases h), k, h2, comp, h3⟩, h1⟩
theorem ac_boolean {args : Array Value} {s : State} (h : (Cond.arrayClass .boolean).before args s = true) : ∃ cA, ArrOfT s cA .boolean ∧ va_RA s cA .boolean := by
  obtain ⟨c, k, comp, h1, h2, h3⟩ := Cond.arrayClass_spec h
  exact ⟨c, fun n z => ⟨fun q h => (by cases h), k, h2, comp, h3⟩, h1⟩
theorem law_K {args : Array Value} {s : State} (hts : ∀ w ∈ lw_tbl, w.before args s = true) : ∃ (D : va_G) (ty : g_T3), va_K D vwCl (g_ty ty) s := by
  obtain ⟨c1, iS1, hK1⟩ := u_known (C := RX1) (T := TX1) (N := 2) (n := 2) hts in_wsX10 (hts _ (List.mem_of_getElem? (i := 98) (by decide +kernel)))
  obtain ⟨c2, iS2, hK2⟩ := u_known (C := RX2) (T := TX2) (N := 8) (n := 8) hts in_wsX20 (hts _ (List.mem_of_getElem? (i := 60) (by decide +kernel)))
  obtain ⟨c3, iS3, hK3⟩ := u_known (C := RX3) (T := TX3) (N := 3) (n := 3) hts in_wsX30 (hts _ (List.mem_of_getElem? (i := 33) (by decide +kernel)))
  obtain ⟨c4, iS4, hK4⟩ := u_known (C := RX4) (T := TX4) (N := 5) (n := 5) hts in_wsX40 (hts _ (List.mem_of_getElem? (i := 110) (by decide +kernel)))
  obtain ⟨c5, iS5, hK5⟩ := u_known (C := RX5) (T := TX5) (N := 4) (n := 4) hts in_wsX50 (hts _ (List.mem_of_getElem? (i := 25) (by decide +kernel)))
  obtain ⟨a_int, hA_int⟩ := ac_int (hts _ (List.mem_of_getElem? (i := 57) (by decide +kernel)))
  obtain ⟨a_long, hA_long⟩ := ac_long (hts _ (List.mem_of_getElem? (i := 96) (by decide +kernel)))
  obtain ⟨a_boolean, hA_boolean⟩ := ac_boolean (hts _ (List.mem_of_getElem? (i := 58) (by decide +kernel)))
  refine ⟨(fun k => match k with | 0 => c1 | 1 => c2 | 2 => c3 | 3 => c4 | _ => c5, fun k => match k with | 0 => iS1 | 1 => iS2 | 2 => iS3 | 3 => iS4 | _ => iS5), (a_int, a_long, a_boolean), ?_, ?_⟩
  · intro k q hq
    match k, hq with
    | 0, hq => cases hq; exact hK1
    | 1, hq => cases hq; exact hK2
    | 2, hq => cases hq; exact hK3
    | 3, hq => cases hq; exact hK4
    | 4, hq => cases hq; exact hK5
    | k + 5, hq => simp [vwCl] at hq
  · intro k q hq
    match k, hq with
    | 0, hq => cases hq; exact hA_int
    | 1, hq => cases hq; exact hA_long
    | 2, hq => cases hq; exact hA_boolean
    | k + 3, hq => simp [g_ty] at hq

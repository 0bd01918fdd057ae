/-! what the law cases rest on -/
theorem ib16 (f : Int64) (s : Nat) : (ibc (nI (imF f s))).toInt ≤ 16 := by
  unfold imF
  rw [ibc_n (imN_lt f s 16)]
  have h := fun i => (c_s3 (ng (imN f s 16) i) (ng_lt _ i)).2
  have h0 := h 0
  have h1 := h 1
  have h2 := h 2
  have h3 := h 3
  rw [nI_toInt (by omega)]
  omega
theorem hp_up {p2 : Nat → Nat} {k u : Nat} (hp : (∀ k, k < 10 → 1 ≤ p2 k ∧ p2 k ≤ 5) ∧ p2 10 ≤ 5) (hlo : (if k = 10 then 0 else 1) ≤ u) (hu : u ≤ 5) : (∀ k', k' < 10 → 1 ≤ va_up p2 k u k' ∧ va_up p2 k u k' ≤ 5) ∧ va_up p2 k u 10 ≤ 5 := by
  refine ⟨fun i hi => ?_, ?_⟩
  · by_cases q : i = k
    · subst q
      rw [va_up_self]
      rw [if_neg (by omega)] at hlo
      exact ⟨hlo, hu⟩
    · rw [va_up_ne _ _ q]; exact hp.1 i hi
  · by_cases q : 10 = k
    · subst q; rw [va_up_self]; exact hu
    · rw [va_up_ne _ _ q]; exact hp.2
theorem nr_eq (es : List Ent) (f : Int64) : (nrN (fun j => lbc (dfF (eF es j) f)) es.length).1 = (nrN (fun j => ibc (nI (ulN f (eF es j) 16))) es.length).1 := by
  rw [show (fun j => lbc (dfF (eF es j) f)) = (fun j => ibc (nI (ulN f (eF es j) 16))) from funext (fun j => near_d f (eF es j))]
theorem fm_30 {es : List Ent} {st : Nat → Nat} (h : stI es st) {k : Nat} (hk : k < es.length) : (fmE es 7 k).length ≤ 30 := fm_len30 (n := 7) h.1 h.2.2.2.2 hk (by have := (h.1 k hk).1; omega)
theorem ap_5 {tb : Nat → Nat} (hb : ∀ i, tb i < 256) (tl : Nat) (i1 i2 i3 i4 i5 : Int32) : ∀ i, ap4 (ap4 (ap4 (ap4 (ap4 tb tl i1) (tl + 4) i2) (tl + 4 + 4) i3) (tl + 4 + 4 + 4) i4) (tl + 4 + 4 + 4 + 4) i5 i < 256 := ap4_lt (ap4_lt (ap4_lt (ap4_lt (ap4_lt hb _ _) _ _) _ _) _ _) _ _

/-! the reference's rows -/
theorem md_ma {op : Nat} (h : op < 10) (f g : Int64) : mdN op f g 16 = maF op f g := md_ma2 h f g
def modOk (es : List Ent) (fM : Nat → Int64) (qM oM aM bM lM hM : Nat → Int32) : Prop := rOk es fM oM aM bM ∧ (∀ i, i < es.length → qM i = nI (eC es i)) ∧ cOk es lM hM ∧ ndE es ∧ es.length ≤ 2000
theorem mod_none {fM : Nat → Int64} {qM oM aM bM lM hM : Nat → Int32} (h : ∀ c, c < 1024 → lM c = 0) : modOk [] fM qM oM aM bM lM hM := ⟨r_none, fun i hi => absurd hi (Nat.not_lt_zero i), c_none h, fun i j hi => absurd hi (Nat.not_lt_zero i), Nat.zero_le _⟩
theorem fnN_s {es : List Ent} {f : Int64} {m : Nat} (h0 : 0 < m) (h : ¬ eF es (m - 1) = f) : fnN es f m = fnN es f (m - 1) := by
  obtain ⟨k, rfl⟩ : ∃ k, m = k + 1 := ⟨m - 1, by omega⟩
  exact if_neg h
theorem fnN_h {es : List Ent} {f : Int64} {m : Nat} (h0 : 0 < m) (h : eF es (m - 1) = f) : fnN es f m = m := by
  obtain ⟨k, rfl⟩ : ∃ k, m = k + 1 := ⟨m - 1, by omega⟩
  exact if_pos h
theorem m1_int {m : Nat} (h : m < 2 ^ 30) : (nI m - nI 1).toInt = (m : Int) - 1 := pk_sub_toInt h (by decide)
theorem q_put {es : List Ent} {qM : Nat → Int32} (h : ∀ i, i < es.length → qM i = nI (eC es i)) (f : Int64) (c : Nat) (o a b : Int32) : ∀ i, i < (es ++ [(f, c, o, a, b)]).length → upd qM es.length (nI c) i = nI (eC (es ++ [(f, c, o, a, b)]) i) := by
  intro i hi
  rw [len_app] at hi
  unfold eC
  rcases Nat.lt_or_ge i es.length with q | q
  · rw [pk_un (by omega), ge_old q]; exact h i q
  · obtain rfl : i = es.length := by omega
    rw [pk_us, ge_new]
theorem mod_put {es : List Ent} {fM : Nat → Int64} {qM oM aM bM lM hM : Nat → Int32} (h : modOk es fM qM oM aM bM lM hM) (h2 : ¬ es.length = 2000) (f : Int64) (c : Nat) (o a b : Int32) (hn : ¬ inE es f) : modOk (es ++ [(f, c, o, a, b)]) (vp_updL fM es.length f) (upd qM es.length (nI c)) (upd oM es.length o) (upd aM es.length a) (upd bM es.length b) (upd lM (chn f) (nI (es.length + 1))) (upd hM es.length (lM (chn f))) :=
  ⟨r_put h.1 f c o a b, q_put h.2.1 f c o a b, c_put (x := (f, c, o, a, b)) h.2.2.1, nd_app h.2.2.2.1 hn, by have := h.2.2.2.2; rw [len_app]; omega⟩
theorem up_bool (b : Bool) : nI b.toNat = nI (if b = true then 1 else 0) := by cases b <;> rfl

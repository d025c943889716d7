/-! ===== the state at first ===== -/
def at_ (M : ev_M) (o : Nat) (c : List va_E) : Prop := ∀ j, j < c.length → M[o + j]? = c[j]?
theorem at_app {M : ev_M} {o n : Nat} {a b : List va_E} (h : at_ M o (a ++ b)) (hn : o + a.length = n) : at_ M o a ∧ at_ M n b := by
  subst hn
  refine ⟨fun j hj => ?_, fun j hj => ?_⟩
  · rw [h j (by rw [List.length_append]; omega), List.getElem?_append_left hj]
  · have h1 := h (a.length + j) (by rw [List.length_append]; omega)
    rw [List.getElem?_append_right (by omega), show a.length + j - a.length = j by omega] at h1
    rw [Nat.add_assoc]
    exact h1
theorem at_cons {M : ev_M} {o : Nat} {x : va_E} {r : List va_E} (h : at_ M o (x :: r)) : M[o]? = some x ∧ at_ M (o + 1) r := by
  refine ⟨h 0 (Nat.succ_pos _), fun j hj => ?_⟩
  have h1 := h (j + 1) (Nat.succ_lt_succ hj)
  rw [show o + 1 + j = o + (j + 1) by omega]
  exact h1
theorem RF_k1 {M : ev_M} {o : Nat} (h : at_ M o k1) : RF M o (0, [], []) := (at_cons h).1
theorem RM_k4 {M : ev_M} {o : Nat} (h : at_ M o (k4 o)) : RM M o [] := ⟨Nat.zero_le _, fun _ => 0, ⟨(at_cons h).1, (at_cons (at_cons h).2).1⟩, fun i hi => absurd hi (Nat.not_lt_zero _)⟩
theorem RQ_k2 {M : ev_M} {o cap : Nat} (hc : cap < 2000) (h : at_ M o (k2 o cap)) : RQ M o cap [] := by
  obtain ⟨h0, h⟩ := at_cons h
  obtain ⟨h1, h⟩ := at_cons h
  obtain ⟨h2, h⟩ := at_cons h
  obtain ⟨h3, h⟩ := at_cons h
  exact ⟨hc, Nat.zero_le _, fun _ => 0, fun _ => 0, fun _ => 0, ⟨h0, h1, h2, h3⟩, fun i hi => absurd hi (Nat.not_lt_zero _)⟩
theorem RG_k3 {M : ev_M} {o : Nat} (h : at_ M o (k3 o)) : RG M o := ⟨fun _ => 0, (at_cons h).1, (at_cons (at_cons h).2).1⟩
theorem RT_k8 {M : ev_M} {o : Nat} (h : at_ M o (k8 o)) : RT M o [] := by
  obtain ⟨h0, h⟩ := at_cons h
  obtain ⟨h, h3⟩ := at_app (n := o + 6) h rfl
  obtain ⟨h1, h2⟩ := at_app (n := o + 5) h rfl
  exact ⟨h0, RQ_k2 (by decide) h1, ⟨fun _ => 0, (at_cons h2).1, fun i hi => absurd hi (Nat.not_lt_zero _)⟩, _, RF_k1 h3⟩
theorem at_k0f {M : ev_M} {b : Nat} (i : Nat) (h : at_ M (b + 2) (k0f b i)) : ∀ j, j < i → at_ M (b + 2 + 4 * j) (k2 (b + 2 + 4 * j) 30) := by
  induction i with
  | zero => intro j hj; exact absurd hj (Nat.not_lt_zero _)
  | succ i ih =>
    obtain ⟨h1, h2⟩ := at_app (n := b + 2 + 4 * i) (a := k0f b i) (b := k2 (b + 2 + 4 * i) 30) h (by rw [k0f_len])
    intro j hj
    by_cases e : j < i
    · exact ih h1 j e
    · rw [show j = i by omega]; exact h2
theorem RA_k0 {M : ev_M} {o : Nat} {T : List Tr} {G : List Cf} (h : at_ M o (k0 o)) : RAn M o T G false 0 0 (fun _ => []) := by
  obtain ⟨h0, h⟩ := at_cons h
  obtain ⟨hr, h⟩ := at_cons h
  obtain ⟨h, h5⟩ := at_app (n := o + 59) h (by simp only [List.length_append, List.length_cons, List.length_nil, k0f_len, k1_len, k2_len, k3_len, k4_len, k8_len, k0_len9, k5_len, k6_len, k7_len] <;> omega)
  obtain ⟨h, h4⟩ := at_app (n := o + 58) h (by simp only [List.length_append, List.length_cons, List.length_nil, k0f_len, k1_len, k2_len, k3_len, k4_len, k8_len, k0_len9, k5_len, k6_len, k7_len] <;> omega)
  obtain ⟨h2, h3⟩ := at_app (n := o + 54) h (by simp only [List.length_append, List.length_cons, List.length_nil, k0f_len, k1_len, k2_len, k3_len, k4_len, k8_len, k0_len9, k5_len, k6_len, k7_len] <;> omega)
  have hf := at_k0f (M := M) (b := o) 13 h2
  refine ⟨false, 0, [], ⟨h0, _, hr, fun k hk => if_pos hk⟩, fun k hk => RQ_k2 (by decide) (hf k hk), RQ_k2 (by decide) h3, ⟨_, RF_k1 h4⟩, ⟨_, RF_k1 h5⟩, fun z => by cases z⟩
theorem RO_k5 {M : ev_M} {o : Nat} (h : at_ M o (k5 o)) : RO M o := by
  obtain ⟨h0, h⟩ := at_cons h
  obtain ⟨h, h3⟩ := at_app (n := o + 6) h (by simp only [List.length_append, List.length_cons, List.length_nil, k0f_len, k1_len, k2_len, k3_len, k4_len, k8_len, k0_len9, k5_len, k6_len, k7_len] <;> omega)
  obtain ⟨h1, h2⟩ := at_app (n := o + 2) h (by simp only [List.length_append, List.length_cons, List.length_nil, k0f_len, k1_len, k2_len, k3_len, k4_len, k8_len, k0_len9, k5_len, k6_len, k7_len] <;> omega)
  exact ⟨o + 2, o + 6, Or.inl ⟨rfl, rfl⟩, h0, ⟨_, RF_k1 h1⟩, ⟨_, RQ_k2 (by decide) h2⟩, _, RQ_k2 (by decide) h3⟩
theorem RS_k6 {M : ev_M} {o : Nat} (h : at_ M o (k6 o)) : RS M o false [] (0, [], []) [] := by
  obtain ⟨h0, h⟩ := at_cons h
  obtain ⟨h, h3⟩ := at_app (n := o + 4) h (by simp only [List.length_append, List.length_cons, List.length_nil, k0f_len, k1_len, k2_len, k3_len, k4_len, k8_len, k0_len9, k5_len, k6_len, k7_len] <;> omega)
  obtain ⟨h1, h2⟩ := at_app (n := o + 3) h (by simp only [List.length_append, List.length_cons, List.length_nil, k0f_len, k1_len, k2_len, k3_len, k4_len, k8_len, k0_len9, k5_len, k6_len, k7_len] <;> omega)
  exact ⟨h0, RM_k4 h1, RF_k1 h2, RQ_k2 (by decide) h3⟩
theorem R_k7 {M : ev_M} (h : at_ M 87 (k7 87)) : RRd M 0 (-1) ∧ Rr M 87 (fun _ => 0) := by
  obtain ⟨h0, h⟩ := at_cons h
  obtain ⟨h, h4⟩ := at_app (n := 95) h (by simp only [List.length_append, List.length_cons, List.length_nil, k0f_len, k1_len, k2_len, k3_len, k4_len, k8_len, k0_len9, k5_len, k6_len, k7_len] <;> omega)
  obtain ⟨h, h3⟩ := at_app (n := 91) h (by simp only [List.length_append, List.length_cons, List.length_nil, k0f_len, k1_len, k2_len, k3_len, k4_len, k8_len, k0_len9, k5_len, k6_len, k7_len] <;> omega)
  obtain ⟨h1, h2⟩ := at_app (n := 89) h (by simp only [List.length_append, List.length_cons, List.length_nil, k0f_len, k1_len, k2_len, k3_len, k4_len, k8_len, k0_len9, k5_len, k6_len, k7_len] <;> omega)
  exact ⟨⟨(0, false), [], [], h0, RM_k4 h2, RQ_k2 (by decide) h3, _, RF_k1 h4⟩, (at_cons h1).1⟩
def St0 : St := St.mk [] (0, [], []) [] [] 0 (fun _ => 0) (-1) false [] (0, [], []) []
theorem RCl_0 {M : ev_M} (h : at_ M 0 (k9 0)) : RCl M St0 := by
  obtain ⟨h0, h⟩ := at_cons h
  obtain ⟨h, h9⟩ := at_app (n := 96) h (by simp only [List.length_append, List.length_cons, List.length_nil, k0f_len, k1_len, k2_len, k3_len, k4_len, k8_len, k0_len9, k5_len, k6_len, k7_len] <;> omega)
  obtain ⟨h, h8⟩ := at_app (n := 87) h (by simp only [List.length_append, List.length_cons, List.length_nil, k0f_len, k1_len, k2_len, k3_len, k4_len, k8_len, k0_len9, k5_len, k6_len, k7_len] <;> omega)
  obtain ⟨h, h7⟩ := at_app (n := 77) h (by simp only [List.length_append, List.length_cons, List.length_nil, k0f_len, k1_len, k2_len, k3_len, k4_len, k8_len, k0_len9, k5_len, k6_len, k7_len] <;> omega)
  obtain ⟨h, h6⟩ := at_app (n := 17) h (by simp only [List.length_append, List.length_cons, List.length_nil, k0f_len, k1_len, k2_len, k3_len, k4_len, k8_len, k0_len9, k5_len, k6_len, k7_len] <;> omega)
  obtain ⟨h, h5⟩ := at_app (n := 15) h (by simp only [List.length_append, List.length_cons, List.length_nil, k0f_len, k1_len, k2_len, k3_len, k4_len, k8_len, k0_len9, k5_len, k6_len, k7_len] <;> omega)
  obtain ⟨h, h4⟩ := at_app (n := 8) h (by simp only [List.length_append, List.length_cons, List.length_nil, k0f_len, k1_len, k2_len, k3_len, k4_len, k8_len, k0_len9, k5_len, k6_len, k7_len] <;> omega)
  obtain ⟨h, h3⟩ := at_app (n := 4) h (by simp only [List.length_append, List.length_cons, List.length_nil, k0f_len, k1_len, k2_len, k3_len, k4_len, k8_len, k0_len9, k5_len, k6_len, k7_len] <;> omega)
  obtain ⟨h1, h2⟩ := at_app (n := 3) h (by simp only [List.length_append, List.length_cons, List.length_nil, k0f_len, k1_len, k2_len, k3_len, k4_len, k8_len, k0_len9, k5_len, k6_len, k7_len] <;> omega)
  obtain ⟨r1, r2⟩ := R_k7 h8
  exact ⟨h0, RM_k4 h1, RF_k1 h2, RQ_k2 (by decide) h3, RT_k8 h4, RG_k3 h5, ⟨_, _, _, _, RA_k0 h6⟩, RO_k5 h7, r1, r2, RS_k6 h9⟩
theorem okS_0 : okS St0 := by
  have hx : cfW 10 ((0, [], []) : Cf) := ⟨by decide, fun a ha => absurd ha List.not_mem_nil, Nat.zero_le _, fun a ha => absurd ha List.not_mem_nil, Nat.zero_le _⟩
  exact ⟨fun x hx => absurd hx List.not_mem_nil, hx, cfs_nil, cfs_nil, Nat.zero_le _, fun i => by show 0 < 65536; decide, fun x hx => absurd hx List.not_mem_nil, Nat.zero_le _, hx, cfs_nil, Nat.zero_le _⟩

section EVN
variable {l : Launch} {mi mj : ev_MI} {kc ks pc : Nat} {ls : ev_L} {st : List Value} {M : ev_M} {Q : ev_R → ev_M → Prop}
theorem ev_iN_eq {a b : Nat} {off : Int} {tgt : Nat} (hd : decode (ev_c mi) pc = .ok (.if_icmp .eq off, 3)) (ht : (pc : Int) + off = (tgt : Int)) (ha : a < 2 ^ 31) (hb : b < 2 ^ 31) (kt : a = b → ev_ l mi kc ks tgt ls st M Q) (kf : a ≠ b → ev_ l mi kc ks (pc + 3) ls st M Q) : ev_ l mi kc ks pc ls (.int (nI b) :: .int (nI a) :: st) M Q :=
  ev_ic_eq hd ht (fun h => kt ((nI_eq ha hb).mp h)) (fun h => kf (fun q => h ((nI_eq ha hb).mpr q)))
theorem ev_iN_ne {a b : Nat} {off : Int} {tgt : Nat} (hd : decode (ev_c mi) pc = .ok (.if_icmp .ne off, 3)) (ht : (pc : Int) + off = (tgt : Int)) (ha : a < 2 ^ 31) (hb : b < 2 ^ 31) (kt : a ≠ b → ev_ l mi kc ks tgt ls st M Q) (kf : a = b → ev_ l mi kc ks (pc + 3) ls st M Q) : ev_ l mi kc ks pc ls (.int (nI b) :: .int (nI a) :: st) M Q :=
  ev_ic_ne hd ht (fun h => kt (fun q => h ((nI_eq ha hb).mpr q))) (fun h => kf ((nI_eq ha hb).mp h))
theorem ev_iN_lt {a b : Nat} {off : Int} {tgt : Nat} (hd : decode (ev_c mi) pc = .ok (.if_icmp .lt off, 3)) (ht : (pc : Int) + off = (tgt : Int)) (ha : a < 2 ^ 31) (hb : b < 2 ^ 31) (kt : a < b → ev_ l mi kc ks tgt ls st M Q) (kf : b ≤ a → ev_ l mi kc ks (pc + 3) ls st M Q) : ev_ l mi kc ks pc ls (.int (nI b) :: .int (nI a) :: st) M Q :=
  ev_ic_lt hd ht (fun h => kt ((nI_ltI ha hb).mp h)) (fun h => kf (Nat.le_of_not_lt (fun q => h ((nI_ltI ha hb).mpr q))))
theorem ev_iN_ge {a b : Nat} {off : Int} {tgt : Nat} (hd : decode (ev_c mi) pc = .ok (.if_icmp .ge off, 3)) (ht : (pc : Int) + off = (tgt : Int)) (ha : a < 2 ^ 31) (hb : b < 2 ^ 31) (kt : b ≤ a → ev_ l mi kc ks tgt ls st M Q) (kf : a < b → ev_ l mi kc ks (pc + 3) ls st M Q) : ev_ l mi kc ks pc ls (.int (nI b) :: .int (nI a) :: st) M Q :=
  ev_ic_ge hd ht (fun h => kt ((nI_leI hb ha).mp h)) (fun h => kf (Nat.lt_of_not_le (fun q => h ((nI_leI hb ha).mpr q))))
theorem ev_iN_gt {a b : Nat} {off : Int} {tgt : Nat} (hd : decode (ev_c mi) pc = .ok (.if_icmp .gt off, 3)) (ht : (pc : Int) + off = (tgt : Int)) (ha : a < 2 ^ 31) (hb : b < 2 ^ 31) (kt : b < a → ev_ l mi kc ks tgt ls st M Q) (kf : a ≤ b → ev_ l mi kc ks (pc + 3) ls st M Q) : ev_ l mi kc ks pc ls (.int (nI b) :: .int (nI a) :: st) M Q :=
  ev_ic_gt hd ht (fun h => kt ((nI_ltI hb ha).mp h)) (fun h => kf (Nat.le_of_not_lt (fun q => h ((nI_ltI hb ha).mpr q))))
theorem ev_iN_le {a b : Nat} {off : Int} {tgt : Nat} (hd : decode (ev_c mi) pc = .ok (.if_icmp .le off, 3)) (ht : (pc : Int) + off = (tgt : Int)) (ha : a < 2 ^ 31) (hb : b < 2 ^ 31) (kt : a ≤ b → ev_ l mi kc ks tgt ls st M Q) (kf : b < a → ev_ l mi kc ks (pc + 3) ls st M Q) : ev_ l mi kc ks pc ls (.int (nI b) :: .int (nI a) :: st) M Q :=
  ev_ic_le hd ht (fun h => kt ((nI_leI ha hb).mp h)) (fun h => kf (Nat.lt_of_not_le (fun q => h ((nI_leI ha hb).mpr q))))
theorem ev_nI0 {a : Nat} (ha : a < 2 ^ 31) : nI a = 0 ↔ a = 0 := (nI_eq ha (by decide : 0 < 2 ^ 31))
theorem ev_fN_eq {a : Nat} {off : Int} {tgt : Nat} (hd : decode (ev_c mi) pc = .ok (.ifCond .eq off, 3)) (ht : (pc : Int) + off = (tgt : Int)) (ha : a < 2 ^ 31) (kt : a = 0 → ev_ l mi kc ks tgt ls st M Q) (kf : a ≠ 0 → ev_ l mi kc ks (pc + 3) ls st M Q) : ev_ l mi kc ks pc ls (.int (nI a) :: st) M Q :=
  ev_if_eq hd ht (fun h => kt ((ev_nI0 ha).mp h)) (fun h => kf (fun q => h ((ev_nI0 ha).mpr q)))
theorem ev_fN_ne {a : Nat} {off : Int} {tgt : Nat} (hd : decode (ev_c mi) pc = .ok (.ifCond .ne off, 3)) (ht : (pc : Int) + off = (tgt : Int)) (ha : a < 2 ^ 31) (kt : a ≠ 0 → ev_ l mi kc ks tgt ls st M Q) (kf : a = 0 → ev_ l mi kc ks (pc + 3) ls st M Q) : ev_ l mi kc ks pc ls (.int (nI a) :: st) M Q :=
  ev_if_ne hd ht (fun h => kt (fun q => h ((ev_nI0 ha).mpr q))) (fun h => kf ((ev_nI0 ha).mp h))
theorem ev_fN_lt {a : Nat} {off : Int} (hd : decode (ev_c mi) pc = .ok (.ifCond .lt off, 3)) {tgt : Nat} (ht : (pc : Int) + off = (tgt : Int)) (ha : a < 2 ^ 31) (kf : ev_ l mi kc ks (pc + 3) ls st M Q) : ev_ l mi kc ks pc ls (.int (nI a) :: st) M Q :=
  ev_if_lt hd ht (fun h => absurd h (nI_pos ha)) (fun _ => kf)
theorem ev_fN_ge {a : Nat} {off : Int} {tgt : Nat} (hd : decode (ev_c mi) pc = .ok (.ifCond .ge off, 3)) (ht : (pc : Int) + off = (tgt : Int)) (ha : a < 2 ^ 31) (kt : ev_ l mi kc ks tgt ls st M Q) : ev_ l mi kc ks pc ls (.int (nI a) :: st) M Q :=
  ev_if_ge hd ht (fun _ => kt) (fun h => absurd (nI_pos' ha) h)
theorem ev_fN_gt {a : Nat} {off : Int} {tgt : Nat} (hd : decode (ev_c mi) pc = .ok (.ifCond .gt off, 3)) (ht : (pc : Int) + off = (tgt : Int)) (ha : a < 2 ^ 31) (kt : 0 < a → ev_ l mi kc ks tgt ls st M Q) (kf : a = 0 → ev_ l mi kc ks (pc + 3) ls st M Q) : ev_ l mi kc ks pc ls (.int (nI a) :: st) M Q :=
  ev_if_gt hd ht (fun h => kt (Nat.pos_of_ne_zero (fun q => by rw [q] at h; exact absurd h (by decide)))) (fun h => kf (Nat.eq_zero_of_not_pos (fun q => h (nI_lt q ha))))
theorem ev_fN_le {a : Nat} {off : Int} {tgt : Nat} (hd : decode (ev_c mi) pc = .ok (.ifCond .le off, 3)) (ht : (pc : Int) + off = (tgt : Int)) (ha : a < 2 ^ 31) (kt : a = 0 → ev_ l mi kc ks tgt ls st M Q) (kf : 0 < a → ev_ l mi kc ks (pc + 3) ls st M Q) : ev_ l mi kc ks pc ls (.int (nI a) :: st) M Q :=
  ev_if_le hd ht (fun h => kt (Nat.eq_zero_of_not_pos (fun q => nI_nle q ha h))) (fun h => kf (Nat.pos_of_ne_zero (fun q => h (by rw [q]; decide))))
theorem ev_lcv (x y : Int64) : (x < y ∧ lg_cmp x y = -1) ∨ (x = y ∧ lg_cmp x y = 0) ∨ (y < x ∧ lg_cmp x y = 1) := by
  unfold lg_cmp
  by_cases h1 : x > y
  · exact Or.inr (Or.inr ⟨h1, if_pos h1⟩)
  · by_cases h2 : x = y
    · exact Or.inr (Or.inl ⟨h2, by rw [if_neg h1, if_pos h2]⟩)
    · refine Or.inl ⟨?_, by rw [if_neg h1, if_neg h2]⟩
      simp only [gt_iff_lt, Int64.lt_iff_toInt_lt] at h1 ⊢
      have : x.toInt ≠ y.toInt := fun q => h2 (Int64.toInt_inj.mp q)
      omega
theorem ev_ltne {x y : Int64} (h : x < y) : ¬ x = y ∧ ¬ y < x ∧ ¬ y ≤ x ∧ x ≤ y := by
  simp only [Int64.lt_iff_toInt_lt, Int64.le_iff_toInt_le, ← Int64.toInt_inj] at h ⊢
  omega
theorem ev_lerf (x : Int64) : x ≤ x ∧ ¬ x < x := by
  simp only [Int64.lt_iff_toInt_lt, Int64.le_iff_toInt_le]
  omega
theorem ev_lq_eq (x y : Int64) : (lg_cmp x y = 0) ↔ (x = y) := by
  rcases ev_lcv x y with ⟨h, e⟩ | ⟨h, e⟩ | ⟨h, e⟩
  · obtain ⟨a1, a2, a3, a4⟩ := ev_ltne h
    rw [e]
    constructor <;> intro q <;> first | (exact absurd q (by decide)) | (exact absurd q (by assumption)) | (exact absurd (by assumption) q) | assumption | decide
  · subst h
    obtain ⟨a1, a2⟩ := ev_lerf x
    rw [e]
    constructor <;> intro q <;> first | rfl | (exact absurd q (by decide)) | (exact absurd q (by assumption)) | (exact absurd rfl q) | assumption | decide
  · obtain ⟨a1, a2, a3, a4⟩ := ev_ltne h
    have a5 : ¬ x = y := fun q => a1 q.symm
    rw [e]
    constructor <;> intro q <;> first | (exact absurd q (by decide)) | (exact absurd q (by assumption)) | (exact absurd (by assumption) q) | assumption | decide
theorem ev_lc_eq {x y : Int64} {off : Int} {tgt : Nat} (hd : decode (ev_c mi) pc = .ok (.ifCond .eq off, 3)) (ht : (pc : Int) + off = (tgt : Int)) (kt : x = y → ev_ l mi kc ks tgt ls st M Q) (kf : ¬ x = y → ev_ l mi kc ks (pc + 3) ls st M Q) : ev_ l mi kc ks pc ls (.int (lg_cmp x y) :: st) M Q :=
  ev_if_eq hd ht (fun h => kt ((ev_lq_eq x y).mp h)) (fun h => kf (fun q => h ((ev_lq_eq x y).mpr q)))
theorem ev_lq_ne (x y : Int64) : (¬ lg_cmp x y = 0) ↔ (¬ x = y) := by
  rcases ev_lcv x y with ⟨h, e⟩ | ⟨h, e⟩ | ⟨h, e⟩
  · obtain ⟨a1, a2, a3, a4⟩ := ev_ltne h
    rw [e]
    constructor <;> intro q <;> first | (exact absurd q (by decide)) | (exact absurd q (by assumption)) | (exact absurd (by assumption) q) | assumption | decide
  · subst h
    obtain ⟨a1, a2⟩ := ev_lerf x
    rw [e]
    constructor <;> intro q <;> first | rfl | (exact absurd q (by decide)) | (exact absurd q (by assumption)) | (exact absurd rfl q) | assumption | decide
  · obtain ⟨a1, a2, a3, a4⟩ := ev_ltne h
    have a5 : ¬ x = y := fun q => a1 q.symm
    rw [e]
    constructor <;> intro q <;> first | (exact absurd q (by decide)) | (exact absurd q (by assumption)) | (exact absurd (by assumption) q) | assumption | decide
theorem ev_lc_ne {x y : Int64} {off : Int} {tgt : Nat} (hd : decode (ev_c mi) pc = .ok (.ifCond .ne off, 3)) (ht : (pc : Int) + off = (tgt : Int)) (kt : ¬ x = y → ev_ l mi kc ks tgt ls st M Q) (kf : x = y → ev_ l mi kc ks (pc + 3) ls st M Q) : ev_ l mi kc ks pc ls (.int (lg_cmp x y) :: st) M Q :=
  ev_if_ne hd ht (fun h => kt ((ev_lq_ne x y).mp h)) (fun h => kf ((ev_lq_eq x y).mp h))
theorem ev_lq_lt (x y : Int64) : (lg_cmp x y < 0) ↔ (x < y) := by
  rcases ev_lcv x y with ⟨h, e⟩ | ⟨h, e⟩ | ⟨h, e⟩
  · obtain ⟨a1, a2, a3, a4⟩ := ev_ltne h
    rw [e]
    constructor <;> intro q <;> first | (exact absurd q (by decide)) | (exact absurd q (by assumption)) | (exact absurd (by assumption) q) | assumption | decide
  · subst h
    obtain ⟨a1, a2⟩ := ev_lerf x
    rw [e]
    constructor <;> intro q <;> first | rfl | (exact absurd q (by decide)) | (exact absurd q (by assumption)) | (exact absurd rfl q) | assumption | decide
  · obtain ⟨a1, a2, a3, a4⟩ := ev_ltne h
    have a5 : ¬ x = y := fun q => a1 q.symm
    rw [e]
    constructor <;> intro q <;> first | (exact absurd q (by decide)) | (exact absurd q (by assumption)) | (exact absurd (by assumption) q) | assumption | decide
theorem ev_lc_lt {x y : Int64} {off : Int} {tgt : Nat} (hd : decode (ev_c mi) pc = .ok (.ifCond .lt off, 3)) (ht : (pc : Int) + off = (tgt : Int)) (kt : x < y → ev_ l mi kc ks tgt ls st M Q) (kf : ¬ x < y → ev_ l mi kc ks (pc + 3) ls st M Q) : ev_ l mi kc ks pc ls (.int (lg_cmp x y) :: st) M Q :=
  ev_if_lt hd ht (fun h => kt ((ev_lq_lt x y).mp h)) (fun h => kf (fun q => h ((ev_lq_lt x y).mpr q)))
theorem ev_lq_ge (x y : Int64) : (0 ≤ lg_cmp x y) ↔ (y ≤ x) := by
  rcases ev_lcv x y with ⟨h, e⟩ | ⟨h, e⟩ | ⟨h, e⟩
  · obtain ⟨a1, a2, a3, a4⟩ := ev_ltne h
    rw [e]
    constructor <;> intro q <;> first | (exact absurd q (by decide)) | (exact absurd q (by assumption)) | (exact absurd (by assumption) q) | assumption | decide
  · subst h
    obtain ⟨a1, a2⟩ := ev_lerf x
    rw [e]
    constructor <;> intro q <;> first | rfl | (exact absurd q (by decide)) | (exact absurd q (by assumption)) | (exact absurd rfl q) | assumption | decide
  · obtain ⟨a1, a2, a3, a4⟩ := ev_ltne h
    have a5 : ¬ x = y := fun q => a1 q.symm
    rw [e]
    constructor <;> intro q <;> first | (exact absurd q (by decide)) | (exact absurd q (by assumption)) | (exact absurd (by assumption) q) | assumption | decide
theorem ev_lc_ge {x y : Int64} {off : Int} {tgt : Nat} (hd : decode (ev_c mi) pc = .ok (.ifCond .ge off, 3)) (ht : (pc : Int) + off = (tgt : Int)) (kt : y ≤ x → ev_ l mi kc ks tgt ls st M Q) (kf : ¬ y ≤ x → ev_ l mi kc ks (pc + 3) ls st M Q) : ev_ l mi kc ks pc ls (.int (lg_cmp x y) :: st) M Q :=
  ev_if_ge hd ht (fun h => kt ((ev_lq_ge x y).mp h)) (fun h => kf (fun q => h ((ev_lq_ge x y).mpr q)))
theorem ev_lq_gt (x y : Int64) : (0 < lg_cmp x y) ↔ (y < x) := by
  rcases ev_lcv x y with ⟨h, e⟩ | ⟨h, e⟩ | ⟨h, e⟩
  · obtain ⟨a1, a2, a3, a4⟩ := ev_ltne h
    rw [e]
    constructor <;> intro q <;> first | (exact absurd q (by decide)) | (exact absurd q (by assumption)) | (exact absurd (by assumption) q) | assumption | decide
  · subst h
    obtain ⟨a1, a2⟩ := ev_lerf x
    rw [e]
    constructor <;> intro q <;> first | rfl | (exact absurd q (by decide)) | (exact absurd q (by assumption)) | (exact absurd rfl q) | assumption | decide
  · obtain ⟨a1, a2, a3, a4⟩ := ev_ltne h
    have a5 : ¬ x = y := fun q => a1 q.symm
    rw [e]
    constructor <;> intro q <;> first | (exact absurd q (by decide)) | (exact absurd q (by assumption)) | (exact absurd (by assumption) q) | assumption | decide
theorem ev_lc_gt {x y : Int64} {off : Int} {tgt : Nat} (hd : decode (ev_c mi) pc = .ok (.ifCond .gt off, 3)) (ht : (pc : Int) + off = (tgt : Int)) (kt : y < x → ev_ l mi kc ks tgt ls st M Q) (kf : ¬ y < x → ev_ l mi kc ks (pc + 3) ls st M Q) : ev_ l mi kc ks pc ls (.int (lg_cmp x y) :: st) M Q :=
  ev_if_gt hd ht (fun h => kt ((ev_lq_gt x y).mp h)) (fun h => kf (fun q => h ((ev_lq_gt x y).mpr q)))
theorem ev_lq_le (x y : Int64) : (lg_cmp x y ≤ 0) ↔ (x ≤ y) := by
  rcases ev_lcv x y with ⟨h, e⟩ | ⟨h, e⟩ | ⟨h, e⟩
  · obtain ⟨a1, a2, a3, a4⟩ := ev_ltne h
    rw [e]
    constructor <;> intro q <;> first | (exact absurd q (by decide)) | (exact absurd q (by assumption)) | (exact absurd (by assumption) q) | assumption | decide
  · subst h
    obtain ⟨a1, a2⟩ := ev_lerf x
    rw [e]
    constructor <;> intro q <;> first | rfl | (exact absurd q (by decide)) | (exact absurd q (by assumption)) | (exact absurd rfl q) | assumption | decide
  · obtain ⟨a1, a2, a3, a4⟩ := ev_ltne h
    have a5 : ¬ x = y := fun q => a1 q.symm
    rw [e]
    constructor <;> intro q <;> first | (exact absurd q (by decide)) | (exact absurd q (by assumption)) | (exact absurd (by assumption) q) | assumption | decide
theorem ev_lc_le {x y : Int64} {off : Int} {tgt : Nat} (hd : decode (ev_c mi) pc = .ok (.ifCond .le off, 3)) (ht : (pc : Int) + off = (tgt : Int)) (kt : x ≤ y → ev_ l mi kc ks tgt ls st M Q) (kf : ¬ x ≤ y → ev_ l mi kc ks (pc + 3) ls st M Q) : ev_ l mi kc ks pc ls (.int (lg_cmp x y) :: st) M Q :=
  ev_if_le hd ht (fun h => kt ((ev_lq_le x y).mp h)) (fun h => kf (fun q => h ((ev_lq_le x y).mpr q)))
/-! what a call answers, told: one answer, one memory -/
def ev_q (r : ev_R) (M0 : ev_M) : ev_R → ev_M → Prop := fun r' M' => r' = r ∧ M' = M0
theorem ev_q_i (r : ev_R) (M0 : ev_M) : ev_q r M0 r M0 := ⟨rfl, rfl⟩
theorem ev_q_e {r r' : ev_R} {M0 : ev_M} (h : r' = r) : ev_q r M0 r' M0 := ⟨h, rfl⟩
theorem ev_Mt_mono {as : List Value} {P Q : ev_R → ev_M → Prop} (h : ∀ r M', P r M' → Q r M') (hc : ev_Mt l mi as M P) : ev_Mt l mi as M Q := by
  intro h1 h2 D ad ax cA sz p e ha hc1 hc2 s m args below hf happ hP hK
  obtain ⟨n, o, k1, k2, k3, k4⟩ := hc h1 h2 D ad ax cA sz p e ha hc1 hc2 s m args below hf happ hP hK
  refine ⟨n, o, k1, k2, k3, ?_⟩
  rcases k4 with ⟨⟨⟨r, M', ad', a1, a2, a3, a4, a5⟩, hF⟩, hL⟩ | ⟨q, hq, E, ce, L, ⟨⟨r, M', ad', a1, a2, a3, a4, a5⟩, hF⟩, b⟩
  · exact Or.inl ⟨⟨⟨r, M', ad', a1, a2, a3, h _ _ a4, a5⟩, hF⟩, hL⟩
  · exact Or.inr ⟨q, hq, E, ce, L, ⟨⟨r, M', ad', a1, a2, a3, h _ _ a4, a5⟩, hF⟩, b⟩
theorem ev_eqst {st' : List Value} (h : st' = st) (k : ev_ l mi kc ks pc ls st M Q) : ev_ l mi kc ks pc ls st' M Q := h ▸ k
theorem ev_eqls {ls' : ev_L} (h : ls' = ls) (k : ev_ l mi kc ks pc ls st M Q) : ev_ l mi kc ks pc ls' st M Q := h ▸ k
theorem ev_sg {M : ev_M} {o : Nat} {x c : va_E} (h : M[o]? = some x) : (M.set o c)[o]? = some c := by
  have h1 : o < M.length := (List.getElem?_eq_some_iff.mp h).1
  simp [h1]
theorem ev_sn {M : ev_M} {o j : Nat} {c : va_E} (h : o ≠ j) : (M.set o c)[j]? = M[j]? := by
  rw [List.getElem?_set, if_neg h]
theorem ev_inc1 (a : Nat) : nI a + Int32.ofInt 1 = nI (a + 1) := (nI_succ a).symm
theorem ev_incm {a : Nat} (h : 0 < a) : nI a + Int32.ofInt (-1) = nI (a - 1) := by
  obtain ⟨b, rfl⟩ : ∃ b, a = b + 1 := ⟨a - 1, by omega⟩
  exact pk_m1 b
theorem ev_cVv {idx : Nat} {ci n o : Nat} {fs as : List Value} (hY : ev_YV mj ci n) (hw : Cond.methodLink (ev_y mi).cls idx (ev_y mj) ∈ ev_bw) (hd : decode (ev_c mi) pc = .ok (.invokevirtual idx, 3)) (hR : ev_Rm mi mj kc ks st) (hm : M[o]? = some (.inr (ci, fs))) (hlen : as.length = n) {stk : List Value} (hst : stk = as.reverse ++ .ref o :: st) {v : Value} {M1 : ev_M} (hc : ev_Mt l mj (.ref o :: as) M (ev_q (.inl (some v)) M1)) (kk : ev_ l mi (kc + ev_mc mj) (ks + ev_ms mj) (pc + 3) ls (v :: st) M1 Q) : ev_ l mi kc ks pc ls stk M Q := by
  subst hst
  refine ev_callV hY hw hd hR hm hlen hc (fun v' M' _ hq => ?_) (fun E M' _ hq => ?_)
  · obtain ⟨h1, rfl⟩ := hq
    cases h1
    exact kk
  · cases hq.1
theorem ev_cV0 {idx : Nat} {ci n o : Nat} {fs as : List Value} (hY : ev_YV mj ci n) (hw : Cond.methodLink (ev_y mi).cls idx (ev_y mj) ∈ ev_bw) (hd : decode (ev_c mi) pc = .ok (.invokevirtual idx, 3)) (hR : ev_Rm mi mj kc ks st) (hm : M[o]? = some (.inr (ci, fs))) (hlen : as.length = n) {stk : List Value} (hst : stk = as.reverse ++ .ref o :: st) {M1 : ev_M} (hc : ev_Mt l mj (.ref o :: as) M (ev_q (.inl none) M1)) (kk : ev_ l mi (kc + ev_mc mj) (ks + ev_ms mj) (pc + 3) ls st M1 Q) : ev_ l mi kc ks pc ls stk M Q := by
  subst hst
  refine ev_callV hY hw hd hR hm hlen hc (fun v' M' _ hq => ?_) (fun E M' _ hq => ?_)
  · obtain ⟨h1, rfl⟩ := hq
    cases h1
    exact kk
  · cases hq.1
theorem ev_cVw {idx : Nat} {ci n o : Nat} {fs as : List Value} (hY : ev_YV mj ci n) (hw : Cond.methodLink (ev_y mi).cls idx (ev_y mj) ∈ ev_bw) (hd : decode (ev_c mi) pc = .ok (.invokevirtual idx, 3)) (hR : ev_Rm mi mj kc ks st) (hm : M[o]? = some (.inr (ci, fs))) (hlen : as.length = n) {stk : List Value} (hst : stk = as.reverse ++ .ref o :: st) {v : Value} {B : ev_M → Prop} (hc : ev_Mt l mj (.ref o :: as) M (fun r M1 => r = .inl (some v) ∧ B M1)) (kk : ∀ M1, M.length ≤ M1.length → B M1 → ev_ l mi (kc + ev_mc mj) (ks + ev_ms mj) (pc + 3) ls (v :: st) M1 Q) : ev_ l mi kc ks pc ls stk M Q := by
  subst hst
  refine ev_callV hY hw hd hR hm hlen hc (fun v' M' hle hq => ?_) (fun E M' _ hq => ?_)
  · obtain ⟨h1, h2⟩ := hq
    cases h1
    exact kk M' hle h2
  · cases hq.1
theorem ev_cVn {idx : Nat} {ci n o : Nat} {fs as : List Value} (hY : ev_YV mj ci n) (hw : Cond.methodLink (ev_y mi).cls idx (ev_y mj) ∈ ev_bw) (hd : decode (ev_c mi) pc = .ok (.invokevirtual idx, 3)) (hR : ev_Rm mi mj kc ks st) (hm : M[o]? = some (.inr (ci, fs))) (hlen : as.length = n) {stk : List Value} (hst : stk = as.reverse ++ .ref o :: st) {B : ev_M → Prop} (hc : ev_Mt l mj (.ref o :: as) M (fun r M1 => r = .inl none ∧ B M1)) (kk : ∀ M1, M.length ≤ M1.length → B M1 → ev_ l mi (kc + ev_mc mj) (ks + ev_ms mj) (pc + 3) ls st M1 Q) : ev_ l mi kc ks pc ls stk M Q := by
  subst hst
  refine ev_callV hY hw hd hR hm hlen hc (fun v' M' hle hq => ?_) (fun E M' _ hq => ?_)
  · obtain ⟨h1, h2⟩ := hq
    cases h1
    exact kk M' hle h2
  · cases hq.1
theorem ev_cVx {idx : Nat} {ci n o : Nat} {fs as : List Value} (hY : ev_YV mj ci n) (hw : Cond.methodLink (ev_y mi).cls idx (ev_y mj) ∈ ev_bw) (hd : decode (ev_c mi) pc = .ok (.invokevirtual idx, 3)) (hR : ev_Rm mi mj kc ks st) (hm : M[o]? = some (.inr (ci, fs))) (hlen : as.length = n) {stk : List Value} (hst : stk = as.reverse ++ .ref o :: st) {E : String} {M1 : ev_M} (hc : ev_Mt l mj (.ref o :: as) M (ev_q (.inr E) M1)) (kx : ev_Th l mi (kc + ev_mc mj) (ks + ev_ms mj) pc ls E M1 Q) : ev_ l mi kc ks pc ls stk M Q := by
  subst hst
  refine ev_callV hY hw hd hR hm hlen hc (fun v' M' _ hq => ?_) (fun E M' _ hq => ?_)
  · cases hq.1
  · obtain ⟨h1, rfl⟩ := hq
    cases h1
    exact kx
theorem ev_cSv {idx : Nat} {n : Nat} {as : List Value} (hY : ev_YS mj n) (hw : Cond.methodLink (ev_y mi).cls idx (ev_y mj) ∈ ev_bw) (hd : decode (ev_c mi) pc = .ok (.invokestatic idx, 3)) (hR : ev_Rm mi mj kc ks st) (hlen : as.length = n) {stk : List Value} (hst : stk = as.reverse ++ st) {v : Value} {M1 : ev_M} (hc : ev_Mt l mj as M (ev_q (.inl (some v)) M1)) (kk : ev_ l mi (kc + ev_mc mj) (ks + ev_ms mj) (pc + 3) ls (v :: st) M1 Q) : ev_ l mi kc ks pc ls stk M Q := by
  subst hst
  refine ev_callS hY hw hd hR hlen hc (fun v' M' _ hq => ?_) (fun E M' _ hq => ?_)
  · obtain ⟨h1, rfl⟩ := hq
    cases h1
    exact kk
  · cases hq.1
theorem ev_cS0 {idx : Nat} {n : Nat} {as : List Value} (hY : ev_YS mj n) (hw : Cond.methodLink (ev_y mi).cls idx (ev_y mj) ∈ ev_bw) (hd : decode (ev_c mi) pc = .ok (.invokestatic idx, 3)) (hR : ev_Rm mi mj kc ks st) (hlen : as.length = n) {stk : List Value} (hst : stk = as.reverse ++ st) {M1 : ev_M} (hc : ev_Mt l mj as M (ev_q (.inl none) M1)) (kk : ev_ l mi (kc + ev_mc mj) (ks + ev_ms mj) (pc + 3) ls st M1 Q) : ev_ l mi kc ks pc ls stk M Q := by
  subst hst
  refine ev_callS hY hw hd hR hlen hc (fun v' M' _ hq => ?_) (fun E M' _ hq => ?_)
  · obtain ⟨h1, rfl⟩ := hq
    cases h1
    exact kk
  · cases hq.1
theorem ev_cSw {idx : Nat} {n : Nat} {as : List Value} (hY : ev_YS mj n) (hw : Cond.methodLink (ev_y mi).cls idx (ev_y mj) ∈ ev_bw) (hd : decode (ev_c mi) pc = .ok (.invokestatic idx, 3)) (hR : ev_Rm mi mj kc ks st) (hlen : as.length = n) {stk : List Value} (hst : stk = as.reverse ++ st) {v : Value} {B : ev_M → Prop} (hc : ev_Mt l mj as M (fun r M1 => r = .inl (some v) ∧ B M1)) (kk : ∀ M1, M.length ≤ M1.length → B M1 → ev_ l mi (kc + ev_mc mj) (ks + ev_ms mj) (pc + 3) ls (v :: st) M1 Q) : ev_ l mi kc ks pc ls stk M Q := by
  subst hst
  refine ev_callS hY hw hd hR hlen hc (fun v' M' hle hq => ?_) (fun E M' _ hq => ?_)
  · obtain ⟨h1, h2⟩ := hq
    cases h1
    exact kk M' hle h2
  · cases hq.1
theorem ev_cSn {idx : Nat} {n : Nat} {as : List Value} (hY : ev_YS mj n) (hw : Cond.methodLink (ev_y mi).cls idx (ev_y mj) ∈ ev_bw) (hd : decode (ev_c mi) pc = .ok (.invokestatic idx, 3)) (hR : ev_Rm mi mj kc ks st) (hlen : as.length = n) {stk : List Value} (hst : stk = as.reverse ++ st) {B : ev_M → Prop} (hc : ev_Mt l mj as M (fun r M1 => r = .inl none ∧ B M1)) (kk : ∀ M1, M.length ≤ M1.length → B M1 → ev_ l mi (kc + ev_mc mj) (ks + ev_ms mj) (pc + 3) ls st M1 Q) : ev_ l mi kc ks pc ls stk M Q := by
  subst hst
  refine ev_callS hY hw hd hR hlen hc (fun v' M' hle hq => ?_) (fun E M' _ hq => ?_)
  · obtain ⟨h1, h2⟩ := hq
    cases h1
    exact kk M' hle h2
  · cases hq.1
theorem ev_cSx {idx : Nat} {n : Nat} {as : List Value} (hY : ev_YS mj n) (hw : Cond.methodLink (ev_y mi).cls idx (ev_y mj) ∈ ev_bw) (hd : decode (ev_c mi) pc = .ok (.invokestatic idx, 3)) (hR : ev_Rm mi mj kc ks st) (hlen : as.length = n) {stk : List Value} (hst : stk = as.reverse ++ st) {E : String} {M1 : ev_M} (hc : ev_Mt l mj as M (ev_q (.inr E) M1)) (kx : ev_Th l mi (kc + ev_mc mj) (ks + ev_ms mj) pc ls E M1 Q) : ev_ l mi kc ks pc ls stk M Q := by
  subst hst
  refine ev_callS hY hw hd hR hlen hc (fun v' M' _ hq => ?_) (fun E M' _ hq => ?_)
  · cases hq.1
  · obtain ⟨h1, rfl⟩ := hq
    cases h1
    exact kx
theorem ev_cIv {idx : Nat} {n o : Nat} {as : List Value} (hY : ev_YI mj n) (hw : Cond.methodLink (ev_y mi).cls idx (ev_y mj) ∈ ev_bw) (hd : decode (ev_c mi) pc = .ok (.invokespecial idx, 3)) (hR : ev_Rm mi mj kc ks st) (hlen : as.length = n) {stk : List Value} (hst : stk = as.reverse ++ .ref o :: st) {v : Value} {M1 : ev_M} (hc : ev_Mt l mj (.ref o :: as) M (ev_q (.inl (some v)) M1)) (kk : ev_ l mi (kc + ev_mc mj) (ks + ev_ms mj) (pc + 3) ls (v :: st) M1 Q) : ev_ l mi kc ks pc ls stk M Q := by
  subst hst
  refine ev_callI hY hw hd hR hlen hc (fun v' M' _ hq => ?_) (fun E M' _ hq => ?_)
  · obtain ⟨h1, rfl⟩ := hq
    cases h1
    exact kk
  · cases hq.1
theorem ev_cI0 {idx : Nat} {n o : Nat} {as : List Value} (hY : ev_YI mj n) (hw : Cond.methodLink (ev_y mi).cls idx (ev_y mj) ∈ ev_bw) (hd : decode (ev_c mi) pc = .ok (.invokespecial idx, 3)) (hR : ev_Rm mi mj kc ks st) (hlen : as.length = n) {stk : List Value} (hst : stk = as.reverse ++ .ref o :: st) {M1 : ev_M} (hc : ev_Mt l mj (.ref o :: as) M (ev_q (.inl none) M1)) (kk : ev_ l mi (kc + ev_mc mj) (ks + ev_ms mj) (pc + 3) ls st M1 Q) : ev_ l mi kc ks pc ls stk M Q := by
  subst hst
  refine ev_callI hY hw hd hR hlen hc (fun v' M' _ hq => ?_) (fun E M' _ hq => ?_)
  · obtain ⟨h1, rfl⟩ := hq
    cases h1
    exact kk
  · cases hq.1
theorem ev_cIw {idx : Nat} {n o : Nat} {as : List Value} (hY : ev_YI mj n) (hw : Cond.methodLink (ev_y mi).cls idx (ev_y mj) ∈ ev_bw) (hd : decode (ev_c mi) pc = .ok (.invokespecial idx, 3)) (hR : ev_Rm mi mj kc ks st) (hlen : as.length = n) {stk : List Value} (hst : stk = as.reverse ++ .ref o :: st) {v : Value} {B : ev_M → Prop} (hc : ev_Mt l mj (.ref o :: as) M (fun r M1 => r = .inl (some v) ∧ B M1)) (kk : ∀ M1, M.length ≤ M1.length → B M1 → ev_ l mi (kc + ev_mc mj) (ks + ev_ms mj) (pc + 3) ls (v :: st) M1 Q) : ev_ l mi kc ks pc ls stk M Q := by
  subst hst
  refine ev_callI hY hw hd hR hlen hc (fun v' M' hle hq => ?_) (fun E M' _ hq => ?_)
  · obtain ⟨h1, h2⟩ := hq
    cases h1
    exact kk M' hle h2
  · cases hq.1
theorem ev_cIn {idx : Nat} {n o : Nat} {as : List Value} (hY : ev_YI mj n) (hw : Cond.methodLink (ev_y mi).cls idx (ev_y mj) ∈ ev_bw) (hd : decode (ev_c mi) pc = .ok (.invokespecial idx, 3)) (hR : ev_Rm mi mj kc ks st) (hlen : as.length = n) {stk : List Value} (hst : stk = as.reverse ++ .ref o :: st) {B : ev_M → Prop} (hc : ev_Mt l mj (.ref o :: as) M (fun r M1 => r = .inl none ∧ B M1)) (kk : ∀ M1, M.length ≤ M1.length → B M1 → ev_ l mi (kc + ev_mc mj) (ks + ev_ms mj) (pc + 3) ls st M1 Q) : ev_ l mi kc ks pc ls stk M Q := by
  subst hst
  refine ev_callI hY hw hd hR hlen hc (fun v' M' hle hq => ?_) (fun E M' _ hq => ?_)
  · obtain ⟨h1, h2⟩ := hq
    cases h1
    exact kk M' hle h2
  · cases hq.1
theorem ev_cIx {idx : Nat} {n o : Nat} {as : List Value} (hY : ev_YI mj n) (hw : Cond.methodLink (ev_y mi).cls idx (ev_y mj) ∈ ev_bw) (hd : decode (ev_c mi) pc = .ok (.invokespecial idx, 3)) (hR : ev_Rm mi mj kc ks st) (hlen : as.length = n) {stk : List Value} (hst : stk = as.reverse ++ .ref o :: st) {E : String} {M1 : ev_M} (hc : ev_Mt l mj (.ref o :: as) M (ev_q (.inr E) M1)) (kx : ev_Th l mi (kc + ev_mc mj) (ks + ev_ms mj) pc ls E M1 Q) : ev_ l mi kc ks pc ls stk M Q := by
  subst hst
  refine ev_callI hY hw hd hR hlen hc (fun v' M' _ hq => ?_) (fun E M' _ hq => ?_)
  · cases hq.1
  · obtain ⟨h1, rfl⟩ := hq
    cases h1
    exact kx
theorem ev_nm {M0 : ev_M} (k : ∀ M1, M1 = M0 → ev_ l mi kc ks pc ls st M1 Q) : ev_ l mi kc ks pc ls st M0 Q := k M0 rfl
end EVN

/-! ===== pure: predecessors and firings, the covering run ===== -/
theorem wbS {w v : List Nat} {a : Nat} : wb (if w.getLast? = some a then w.dropLast else w) v = wb w (v ++ [a]) := by
  by_cases h : w = []
  · subst h
    rw [if_neg (fun z => by cases z), wb_nl, wb_nl]
  · have e := List.dropLast_concat_getLast h
    have hl := List.getLast?_eq_some_getLast h
    generalize w.getLast h = b at e hl
    generalize w.dropLast = u at e ⊢
    subst e
    rw [wb_ss]
    by_cases q : b = a
    · rw [if_pos q, if_pos (by rw [hl, q])]
    · rw [if_neg q, if_neg (fun z => q (by rw [hl] at z; exact Option.some.inj z))]
theorem sub_cut {a : Nat} {w s : List Nat} : ∀ {u : List Nat}, ¬ a ∈ u → ((a :: w).Sublist (u ++ a :: s) ↔ w.Sublist s)
  | [], _ => List.cons_sublist_cons
  | b :: r, h => by
    have hr : ¬ a ∈ r := fun z => h (List.mem_cons_of_mem _ z)
    have hb : a ≠ b := fun z => h (z ▸ List.mem_cons_self)
    have ih := sub_cut (w := w) (s := s) hr
    refine Iff.trans ?_ ih
    show (a :: w).Sublist (b :: (r ++ a :: s)) ↔ (a :: w).Sublist (r ++ a :: s)
    constructor
    · intro q
      cases q with
      | cons _ q => exact q
      | cons_cons _ q => exact absurd rfl hb
    · intro q
      exact List.Sublist.cons b q
theorem wbR_n {w v : List Nat} {a : Nat} (h : ix v a = none) : wb (a :: w) v = false := by
  cases q : wb (a :: w) v with
  | false => rfl
  | true =>
    have hm : a ∈ v := (wb_iff.mp q).subset List.mem_cons_self
    obtain ⟨i, hi, e⟩ := List.getElem_of_mem hm
    unfold ix at h
    rw [List.find?_eq_none] at h
    have := h i (List.mem_range.mpr hi)
    rw [gd3 hi, e] at this
    exact absurd (beq_iff_eq.mpr rfl) this
theorem wbR_s {w v : List Nat} {a i : Nat} (h : ix v a = some i) : wb (a :: w) v = wb w (v.drop (i + 1)) := by
  obtain ⟨h1, h2, h3⟩ := ix_lt h
  rw [gd3 h1] at h2
  have e : v = v.take i ++ a :: v.drop (i + 1) := by
    rw [← h2, ← List.drop_eq_getElem_cons h1, List.take_append_drop]
  have hn : ¬ a ∈ v.take i := by
    intro hm
    obtain ⟨j, hj, e2⟩ := List.getElem_of_mem hm
    rw [List.length_take] at hj
    rw [List.getElem_take] at e2
    exact h3 j (by omega) (by rw [gd3 (by omega)]; exact e2)
  have key := sub_cut (w := w) (s := v.drop (i + 1)) hn
  rw [← e] at key
  cases q : wb w (v.drop (i + 1)) with
  | true => exact wb_iff.mpr (key.mpr (wb_iff.mp q))
  | false =>
    cases q2 : wb (a :: w) v with
    | false => rfl
    | true => rw [wb_iff.mpr (key.mp (wb_iff.mp q2))] at q; cases q
theorem mf_i1 {x : Cf} {t : Tr} (h : ¬ t.2.2.1 = 2) : mf x t true = true ↔ t.1 = x.1 := by
  constructor
  · intro q
    by_cases e : t.1 = x.1
    · exact e
    · rw [mfr_0 e] at q; cases q
  · intro q; exact mfr_1 q h
theorem mf_i2 {x : Cf} {t : Tr} (h : t.2.2.1 = 2) : mf x t true = true ↔ t.1 = x.1 ∧ ∃ i, ix (cw x t.2.2.2.1) t.2.2.2.2 = some i := by
  constructor
  · intro q
    by_cases e : t.1 = x.1
    · refine ⟨e, ?_⟩
      rw [mfr_2 e h] at q
      cases z : ix (cw x t.2.2.2.1) t.2.2.2.2 with
      | none => rw [z] at q; cases q
      | some i => exact ⟨i, rfl⟩
    · rw [mfr_0 e] at q; cases q
  · rintro ⟨q, i, z⟩
    rw [mfr_2 q h, z]; rfl
theorem ap_0 {t : Tr} {x : Cf} (h : t.2.2.1 = 0) : (ap t x).2 = (t.2.1, x.2.1, x.2.2) := by
  unfold ap; rw [if_neg (by omega), if_neg (by omega)]
theorem ap_1 {t : Tr} {x : Cf} (h : t.2.2.1 = 1) : (ap t x).2 = (t.2.1, (cset x t.2.2.2.1 (cw x t.2.2.2.1 ++ [t.2.2.2.2])).2) := by
  unfold ap; rw [if_pos h]
theorem ap_2 {t : Tr} {x : Cf} {i : Nat} (h : t.2.2.1 = 2) (hi : ix (cw x t.2.2.2.1) t.2.2.2.2 = some i) : (ap t x).2 = (t.2.1, (cset x t.2.2.2.1 ((cw x t.2.2.2.1).drop (i + 1))).2) := by
  unfold ap; rw [if_neg (by omega), if_pos h, hi]; rfl
/-- x fires t and is then above y, just if y's predecessor is below x -/
theorem pr_iff {x y : Cf} {t : Tr} (ht : trO t) : (t.2.1 = y.1 ∧ cb (bp t y) x = true) ↔ (mf x t true = true ∧ cb y (ap t x).2 = true) := by
  have h3 := ht.2.2.1
  by_cases c0 : t.2.2.1 = 0
  · rw [bp_0 c0, ap_0 c0, mf_i1 (by omega), cb_iff, cb_iff]
    show t.2.1 = y.1 ∧ t.1 = x.1 ∧ _ ∧ _ ↔ _ ∧ y.1 = t.2.1 ∧ _ ∧ _
    constructor
    · rintro ⟨a1, a2, a3, a4⟩; exact ⟨a2, a1.symm, a3, a4⟩
    · rintro ⟨a2, a1, a3, a4⟩; exact ⟨a1.symm, a2, a3, a4⟩
  · by_cases hc : t.2.2.2.1 = 0
    · rw [bp_1 c0 h3 hc]
      by_cases c1 : t.2.2.1 = 1
      · rw [ap_1 c1, mf_i1 (by omega), cb_iff, cb_iff, cst_0 hc, cw_0 hc]
        show t.2.1 = y.1 ∧ t.1 = x.1 ∧ wb (wa y.2.1 t.2.2.1 t.2.2.2.2) x.2.1 = true ∧ _ ↔ _ ∧ y.1 = t.2.1 ∧ wb y.2.1 (x.2.1 ++ [t.2.2.2.2]) = true ∧ _
        unfold wa
        rw [if_pos c1, wbS]
        constructor
        · rintro ⟨a1, a2, a3, a4⟩; exact ⟨a2, a1.symm, a3, a4⟩
        · rintro ⟨a2, a1, a3, a4⟩; exact ⟨a1.symm, a2, a3, a4⟩
      · have c2 : t.2.2.1 = 2 := by omega
        rw [mf_i2 c2, cb_iff]
        show t.2.1 = y.1 ∧ t.1 = x.1 ∧ wb (wa y.2.1 t.2.2.1 t.2.2.2.2) x.2.1 = true ∧ wb y.2.2 x.2.2 = true ↔ _
        unfold wa
        rw [if_neg c1]
        cases hi : ix (cw x t.2.2.2.1) t.2.2.2.2 with
        | none =>
          have hi2 := hi
          rw [cw_0 hc] at hi2
          rw [wbR_n hi2]
          exact ⟨fun z => (by cases z.2.2.1), fun z => by obtain ⟨⟨_, i, q⟩, _⟩ := z; cases q⟩
        | some i =>
          have hi2 := hi
          rw [cw_0 hc] at hi2
          rw [wbR_s hi2, ap_2 c2 hi, cb_iff, cst_0 hc, cw_0 hc]
          constructor
          · rintro ⟨a1, a2, a3, a4⟩; exact ⟨⟨a2, i, rfl⟩, a1.symm, a3, a4⟩
          · rintro ⟨⟨a2, _⟩, a1, a3, a4⟩; exact ⟨a1.symm, a2, a3, a4⟩
    · rw [bp_2 c0 h3 hc]
      by_cases c1 : t.2.2.1 = 1
      · rw [ap_1 c1, mf_i1 (by omega), cb_iff, cb_iff, cst_1 hc, cw_1 hc]
        show t.2.1 = y.1 ∧ t.1 = x.1 ∧ _ ∧ wb (wa y.2.2 t.2.2.1 t.2.2.2.2) x.2.2 = true ↔ _ ∧ y.1 = t.2.1 ∧ _ ∧ wb y.2.2 (x.2.2 ++ [t.2.2.2.2]) = true
        unfold wa
        rw [if_pos c1, wbS]
        constructor
        · rintro ⟨a1, a2, a3, a4⟩; exact ⟨a2, a1.symm, a3, a4⟩
        · rintro ⟨a2, a1, a3, a4⟩; exact ⟨a1.symm, a2, a3, a4⟩
      · have c2 : t.2.2.1 = 2 := by omega
        rw [mf_i2 c2, cb_iff]
        show t.2.1 = y.1 ∧ t.1 = x.1 ∧ wb y.2.1 x.2.1 = true ∧ wb (wa y.2.2 t.2.2.1 t.2.2.2.2) x.2.2 = true ↔ _
        unfold wa
        rw [if_neg c1]
        cases hi : ix (cw x t.2.2.2.1) t.2.2.2.2 with
        | none =>
          have hi2 := hi
          rw [cw_1 hc] at hi2
          rw [wbR_n hi2]
          exact ⟨fun z => (by cases z.2.2.2), fun z => by obtain ⟨⟨_, i, q⟩, _⟩ := z; cases q⟩
        | some i =>
          have hi2 := hi
          rw [cw_1 hc] at hi2
          rw [wbR_s hi2, ap_2 c2 hi, cb_iff, cst_1 hc, cw_1 hc]
          constructor
          · rintro ⟨a1, a2, a3, a4⟩; exact ⟨⟨a2, i, rfl⟩, a1.symm, a3, a4⟩
          · rintro ⟨⟨a2, _⟩, a1, a3, a4⟩; exact ⟨a1.symm, a2, a3, a4⟩
theorem bl_fire {T : List Tr} {G : List Cf} {x : Cf} (hT : trs T) (k : Nat) : up (bl T G (k + 1)) x ↔ up (bl T G k) x ∨ ∃ t, t < T.length ∧ mf x (tg T t) true = true ∧ up (bl T G k) (ap (tg T t) x).2 := by
  rw [bl_u]
  constructor
  · rintro (h | ⟨y, hy, t, ht, h⟩)
    · exact Or.inl h
    · obtain ⟨h1, h2⟩ := (pr_iff (trs_tg hT ht)).mp h
      exact Or.inr ⟨t, ht, h1, y, hy, h2⟩
  · rintro (h | ⟨t, ht, h1, y, hy, h2⟩)
    · exact Or.inl h
    · exact Or.inr ⟨y, hy, t, ht, (pr_iff (trs_tg hT ht)).mpr ⟨h1, h2⟩⟩
theorem wo_ex {T : List Tr} {L : List Cf} {x : Cf} (h : ∃ t, t < T.length ∧ mf x (tg T t) true = true ∧ up L (ap (tg T t) x).2) : ∃ t, wo T L x = some t := by
  cases q : wo T L x with
  | some t => exact ⟨t, rfl⟩
  | none =>
    obtain ⟨t, ht, h1, h2⟩ := h
    unfold wo at q
    rw [List.find?_eq_none] at q
    have := q t (List.mem_range.mpr ht)
    rw [h1, up_cv.mpr h2] at this
    exact absurd rfl this
/-- the covering run finds its way -/
theorem walks_ok {S : St} (hT : trs S.T) : walks S := by
  intro d hd
  obtain ⟨h1, h2, h3⟩ := ds_lt hd
  have key : ∀ i, i ≤ d → up (bl S.T S.G (d - i)) (wsq S.T (bl S.T S.G) d (S.x, 0, 0) i).1 ∧ ∀ j, j < d - i → ¬ up (bl S.T S.G j) (wsq S.T (bl S.T S.G) d (S.x, 0, 0) i).1 := by
    intro i
    induction i with
    | zero => exact fun _ => ⟨up_cv.mp h2, fun j hj z => by have h9 : cv (bl S.T S.G j) S.x = false := h3 j hj; have h8 : cv (bl S.T S.G j) S.x = true := up_cv.mpr z; rw [h8] at h9; cases h9⟩
    | succ i ih =>
      intro hi
      obtain ⟨a1, a2⟩ := ih (by omega)
      obtain ⟨m, hm⟩ : ∃ m, d - i = m + 1 := ⟨d - i - 1, by omega⟩
      rw [hm] at a1 a2
      have a3 := ((bl_fire hT m).mp a1).resolve_left (a2 m (by omega))
      obtain ⟨t, ht⟩ := wo_ex a3
      have e : d - 1 - i = m := by omega
      have hw : wo S.T (bl S.T S.G (d - 1 - i)) (wsq S.T (bl S.T S.G) d (S.x, 0, 0) i).1 = some t := by rw [e]; exact ht
      obtain ⟨b1, b2, b3⟩ := wo_lt ht
      rw [wsq_s hw, show d - (i + 1) = m by omega]
      refine ⟨up_cv.mp b3, fun j hj z => a2 (j + 1) (by omega) ((bl_fire hT j).mpr (Or.inr ⟨t, b1, b2, z⟩))⟩
  intro i hi
  obtain ⟨a1, a2⟩ := key i (by omega)
  obtain ⟨m, hm⟩ : ∃ m, d - i = m + 1 := ⟨d - i - 1, by omega⟩
  rw [hm] at a1 a2
  obtain ⟨t, ht⟩ := wo_ex (((bl_fire hT m).mp a1).resolve_left (a2 m (by omega)))
  rw [show d - 1 - i = m by omega, ht]
  exact fun z => by cases z

/-! ===== pure: bases depend on what lies above them alone ===== -/
theorem wb_rf (a : List Nat) : wb a a = true := wb_iff.mpr (List.Sublist.refl a)
theorem wb_tr {a b c : List Nat} (h1 : wb a b = true) (h2 : wb b c = true) : wb a c = true := wb_iff.mpr ((wb_iff.mp h1).trans (wb_iff.mp h2))
theorem wb_as {a b : List Nat} (h1 : wb a b = true) (h2 : wb b a = true) : a = b := (wb_iff.mp h1).eq_of_length_le (wb_iff.mp h2).length_le
theorem cb_iff {a b : Cf} : cb a b = true ↔ a.1 = b.1 ∧ wb a.2.1 b.2.1 = true ∧ wb a.2.2 b.2.2 = true := by
  unfold cb
  rw [Bool.and_eq_true, Bool.and_eq_true, beq_iff_eq]
theorem cb_rf (a : Cf) : cb a a = true := cb_iff.mpr ⟨rfl, wb_rf _, wb_rf _⟩
theorem cb_tr {a b c : Cf} (h1 : cb a b = true) (h2 : cb b c = true) : cb a c = true := by
  rw [cb_iff] at *
  exact ⟨h1.1.trans h2.1, wb_tr h1.2.1 h2.2.1, wb_tr h1.2.2 h2.2.2⟩
theorem cb_as {a b : Cf} (h1 : cb a b = true) (h2 : cb b a = true) : a = b := by
  rw [cb_iff] at *
  exact Prod.ext h1.1 (Prod.ext (wb_as h1.2.1 h2.2.1) (wb_as h1.2.2 h2.2.2))
theorem cl_iff {a b : Cf} : cl a b = true ↔ a.1 < b.1 ∨ a.1 = b.1 ∧ (n1 a.2.1 < n1 b.2.1 ∨ n1 a.2.1 = n1 b.2.1 ∧ n1 a.2.2 < n1 b.2.2) := by
  unfold cl
  by_cases h1 : a.1 = b.1
  · rw [if_pos h1]
    by_cases h2 : n1 a.2.1 = n1 b.2.1
    · rw [if_pos h2, decide_eq_true_eq]; omega
    · rw [if_neg h2, decide_eq_true_eq]; omega
  · rw [if_neg h1, decide_eq_true_eq]; omega
theorem cl_tr {a b c : Cf} (h1 : cl a b = true) (h2 : cl b c = true) : cl a c = true := by
  rw [cl_iff] at *; omega
theorem cl_ns {a b : Cf} (h1 : cl a b = true) : ¬ cl b a = true := by
  rw [cl_iff] at *; omega
theorem cl_ir (a : Cf) : ¬ cl a a = true := fun h => cl_ns h h
def wkf (c : Cf) : Prop := wk c.2.1 ∧ wk c.2.2
theorem cfW.wf {k : Nat} {c : Cf} (h : cfW k c) : wkf c := ⟨h.2.1, h.2.2.2.1⟩
theorem cl_to {a b : Cf} (ha : wkf a) (hb : wkf b) (h : a ≠ b) : cl a b = true ∨ cl b a = true := by
  rw [cl_iff, cl_iff]
  rcases Nat.lt_trichotomy a.1 b.1 with q | q | q
  · exact Or.inl (Or.inl q)
  · rcases Nat.lt_trichotomy (n1 a.2.1) (n1 b.2.1) with r | r | r
    · exact Or.inl (Or.inr ⟨q, Or.inl r⟩)
    · rcases Nat.lt_trichotomy (n1 a.2.2) (n1 b.2.2) with s | s | s
      · exact Or.inl (Or.inr ⟨q, Or.inr ⟨r, s⟩⟩)
      · exact absurd (Prod.ext q (Prod.ext (n1_inj ha.1 hb.1 r) (n1_inj ha.2 hb.2 s))) h
      · exact Or.inr (Or.inr ⟨q.symm, Or.inr ⟨r.symm, s⟩⟩)
    · exact Or.inr (Or.inr ⟨q.symm, Or.inl r⟩)
  · exact Or.inr (Or.inl q)
/-- what lies above a list -/
def up (L : List Cf) (y : Cf) : Prop := ∃ x, x ∈ L ∧ cb x y = true
theorem up_cv {L : List Cf} {y : Cf} : cv L y = true ↔ up L y := by
  unfold cv up
  rw [List.any_eq_true]
theorem up_tr {L : List Cf} {y z : Cf} (h : up L y) (h2 : cb y z = true) : up L z := by
  obtain ⟨x, hx, hc⟩ := h
  exact ⟨x, hx, cb_tr hc h2⟩
theorem up_mem {L : List Cf} {x : Cf} (h : x ∈ L) : up L x := ⟨x, h, cb_rf x⟩
/-- ordered, and no one below another -/
def gd (L : List Cf) : Prop := (∀ x, x ∈ L → wkf x) ∧ L.Pairwise (fun a b => cl a b = true) ∧ ∀ x y, x ∈ L → y ∈ L → cb x y = true → x = y
theorem gd_nil : gd [] := ⟨fun _ h => absurd h List.not_mem_nil, List.Pairwise.nil, fun _ _ h => absurd h List.not_mem_nil⟩
theorem srt_eq : ∀ {L R : List Cf}, L.Pairwise (fun a b => cl a b = true) → R.Pairwise (fun a b => cl a b = true) → (∀ x, x ∈ L ↔ x ∈ R) → L = R
  | [], [], _, _, _ => rfl
  | [], b :: s, _, _, h => absurd ((h b).mpr List.mem_cons_self) List.not_mem_nil
  | a :: r, [], _, _, h => absurd ((h a).mp List.mem_cons_self) List.not_mem_nil
  | a :: r, b :: s, h1, h2, h => by
    rw [List.pairwise_cons] at h1 h2
    have e : a = b := by
      rcases List.mem_cons.mp ((h a).mp List.mem_cons_self) with q | q
      · exact q
      · rcases List.mem_cons.mp ((h b).mpr List.mem_cons_self) with q2 | q2
        · exact q2.symm
        · exact absurd (h1.1 b q2) (cl_ns (h2.1 a q))
    subst e
    rw [srt_eq h1.2 h2.2 (fun x => ⟨fun hx => ?_, fun hx => ?_⟩)]
    · rcases List.mem_cons.mp ((h x).mp (List.mem_cons_of_mem _ hx)) with q | q
      · subst q; exact absurd (h1.1 x hx) (cl_ir x)
      · exact q
    · rcases List.mem_cons.mp ((h x).mpr (List.mem_cons_of_mem _ hx)) with q | q
      · subst q; exact absurd (h2.1 x hx) (cl_ir x)
      · exact q
theorem gd_sub {L R : List Cf} (hL : gd L) (h : ∀ y, up L y → up R y) (h2 : ∀ y, up R y → up L y) {x : Cf} (hx : x ∈ L) : x ∈ R := by
  obtain ⟨y, hy, c1⟩ := h x (up_mem hx)
  obtain ⟨z, hz, c2⟩ := h2 y (up_mem hy)
  have e := hL.2.2 z x hz hx (cb_tr c2 c1)
  subst e
  rw [cb_as c2 c1]; exact hy
theorem gd_eq {L R : List Cf} (hL : gd L) (hR : gd R) (h : ∀ y, up L y ↔ up R y) : L = R :=
  srt_eq hL.2.1 hR.2.1 fun _ => ⟨fun hx => gd_sub hL (fun y => (h y).mp) (fun y => (h y).mpr) hx, fun hx => gd_sub hR (fun y => (h y).mpr) (fun y => (h y).mp) hx⟩
theorem insR_srt {c : Cf} (hc : wkf c) : ∀ {D : List Cf}, (∀ x, x ∈ D → wkf x ∧ x ≠ c) → D.Pairwise (fun a b => cl b a = true) → (insR c D).Pairwise (fun a b => cl b a = true)
  | [], _, _ => List.pairwise_singleton _ _
  | x :: r, hD, h => by
    rw [List.pairwise_cons] at h
    show (if cl c x then x :: insR c r else c :: x :: r).Pairwise _
    by_cases q : cl c x = true
    · rw [if_pos q, List.pairwise_cons]
      refine ⟨fun y hy => ?_, insR_srt hc (fun y hy => hD y (List.mem_cons_of_mem _ hy)) h.2⟩
      rcases insR_mem.mp hy with rfl | hy
      · exact q
      · exact h.1 y hy
    · rw [if_neg q, List.pairwise_cons, List.pairwise_cons]
      have q2 : cl x c = true := by
        rcases cl_to hc (hD x List.mem_cons_self).1 (fun e => (hD x List.mem_cons_self).2 e.symm) with z | z
        · exact absurd z q
        · exact z
      refine ⟨fun y hy => ?_, h.1, h.2⟩
      rcases List.mem_cons.mp hy with rfl | hy
      · exact q2
      · exact cl_tr (h.1 y hy) q2
theorem ins_srt {c : Cf} (hc : wkf c) {L : List Cf} (hL : ∀ x, x ∈ L → wkf x ∧ x ≠ c) (h : L.Pairwise (fun a b => cl a b = true)) : (ins c L).Pairwise (fun a b => cl a b = true) := by
  unfold ins
  rw [List.pairwise_reverse]
  exact insR_srt hc (fun x hx => hL x (List.mem_reverse.mp hx)) (List.pairwise_reverse.mpr h)
theorem im_up {L : List Cf} {c : Cf} (h : up L c) : im L c = (false, L) := by
  unfold im
  rw [if_pos (List.any_eq_true.mpr h)]
theorem im_dn {L : List Cf} {c : Cf} (h : ¬ up L c) : im L c = (true, ins c (L.filter (fun x => !cb c x))) := by
  unfold im
  rw [if_neg (fun q => h (List.any_eq_true.mp q))]
theorem fl_mem {L : List Cf} {c x : Cf} : x ∈ L.filter (fun x => !cb c x) ↔ x ∈ L ∧ cb c x = false := by
  rw [List.mem_filter, Bool.not_eq_true']
theorem im_gd {L : List Cf} {c : Cf} (hL : gd L) (hc : wkf c) : gd (im L c).2 := by
  by_cases h : up L c
  · rw [im_up h]; exact hL
  · rw [im_dn h]
    refine ⟨fun x hx => ?_, ins_srt hc (fun x hx => ⟨hL.1 x (fl_mem.mp hx).1, fun e => h (e ▸ up_mem (fl_mem.mp hx).1)⟩) (hL.2.1.filter _), fun x y hx hy hxy => ?_⟩
    · rcases ins_mem.mp hx with rfl | hx
      · exact hc
      · exact hL.1 x (fl_mem.mp hx).1
    · rcases ins_mem.mp hx with rfl | hx
      · rcases ins_mem.mp hy with rfl | hy
        · rfl
        · rw [(fl_mem.mp hy).2] at hxy; cases hxy
      · rcases ins_mem.mp hy with rfl | hy
        · exact absurd ⟨x, (fl_mem.mp hx).1, hxy⟩ h
        · exact hL.2.2 x y (fl_mem.mp hx).1 (fl_mem.mp hy).1 hxy
theorem im_u {L : List Cf} {c y : Cf} : up (im L c).2 y ↔ up L y ∨ cb c y = true := by
  by_cases h : up L c
  · rw [im_up h]
    exact ⟨Or.inl, fun q => q.elim id (fun z => up_tr h z)⟩
  · rw [im_dn h]
    constructor
    · rintro ⟨x, hx, hc⟩
      rcases ins_mem.mp hx with rfl | hx
      · exact Or.inr hc
      · exact Or.inl ⟨x, (fl_mem.mp hx).1, hc⟩
    · rintro (⟨x, hx, hc⟩ | hc)
      · cases q : cb c x with
        | true => exact ⟨c, ins_mem.mpr (Or.inl rfl), cb_tr q hc⟩
        | false => exact ⟨x, ins_mem.mpr (Or.inr (fl_mem.mpr ⟨hx, q⟩)), hc⟩
      · exact ⟨c, ins_mem.mpr (Or.inl rfl), hc⟩
theorem im_f {L : List Cf} {c : Cf} (h : (im L c).1 = false) : (im L c).2 = L := by
  by_cases q : up L c
  · rw [im_up q]
  · rw [im_dn q] at h; cases h
theorem im_t {L : List Cf} {c : Cf} (h : (im L c).1 = true) : ¬ up L c := fun q => by rw [im_up q] at h; cases h
theorem bp_wf {t : Tr} {x : Cf} (hx : wkf x) (ht : t.2.2.2.2 < 3) : wkf (bp t x) := by
  have hw : wk (cw x t.2.2.2.1) := by unfold cw; split; exact hx.1; exact hx.2
  have hs : ∀ w, wk w → wkf (t.1, (cset x t.2.2.2.1 w).2) := fun w hw => by unfold cset; split; exact ⟨hw, hx.2⟩; exact ⟨hx.1, hw⟩
  unfold bp
  split
  · exact hs _ (wk_cons.mpr ⟨ht, hw⟩)
  · split
    · split
      · exact hs _ (wk_dl hw)
      · exact hx
    · exact hx
/-! the folds -/
theorem gsn_gd {G : List Cf} (hG : ∀ x, x ∈ G → wkf x) (i : Nat) (hi : i ≤ G.length) : gd (gsn G i) := by
  induction i with
  | zero => exact gd_nil
  | succ i ih => exact im_gd (ih (by omega)) (hG _ (cg_mem (by omega)))
theorem gsn_u {G : List Cf} {y : Cf} (i : Nat) : up (gsn G i) y ↔ ∃ j, j < i ∧ cb (cg G j) y = true := by
  induction i with
  | zero => exact ⟨fun ⟨x, hx, _⟩ => absurd hx List.not_mem_nil, fun ⟨j, hj, _⟩ => absurd hj (Nat.not_lt_zero _)⟩
  | succ i ih =>
    show up (im (gsn G i) (cg G i)).2 y ↔ _
    rw [im_u, ih]
    constructor
    · rintro (⟨j, hj, hc⟩ | hc)
      · exact ⟨j, by omega, hc⟩
      · exact ⟨i, by omega, hc⟩
    · rintro ⟨j, hj, hc⟩
      by_cases e : j = i
      · subst e; exact Or.inr hc
      · exact Or.inl ⟨j, by omega, hc⟩
theorem ex_cg {L : List Cf} {p : Cf → Prop} : (∃ j, j < L.length ∧ p (cg L j)) ↔ ∃ x, x ∈ L ∧ p x := by
  constructor
  · rintro ⟨j, hj, h⟩; exact ⟨_, cg_mem hj, h⟩
  · rintro ⟨x, hx, h⟩
    obtain ⟨j, hj, rfl⟩ := List.getElem_of_mem hx
    exact ⟨j, hj, by rw [cg_get hj]; exact h⟩
theorem gs_u {G : List Cf} {y : Cf} : up (gs G) y ↔ up G y := (gsn_u G.length).trans (ex_cg (p := fun x => cb x y = true))
theorem gs_gd {B : List Cf} (hB : gd B) : gs B = B := gd_eq (gsn_gd hB.1 _ (Nat.le_refl _)) hB (fun _ => gs_u)
/-- a predecessor of x lies below y -/
def pr (T : List Tr) (x y : Cf) : Prop := ∃ s, s < T.length ∧ (tg T s).2.1 = x.1 ∧ cb (bp (tg T s) x) y = true
theorem rin_gd {T : List Tr} {t : Nat} {B L : List Cf} (hT : trs T) (ht : t < T.length) (hB : ∀ x, x ∈ B → wkf x) (hL : gd L) (i : Nat) (hi : i ≤ B.length) : gd (rin T t B i L) := by
  induction i with
  | zero => exact hL
  | succ i ih =>
    show gd (if (cg B i).1 = (tg T t).2.1 then _ else _)
    split
    · exact im_gd (ih (by omega)) (bp_wf (hB _ (cg_mem (by omega))) (trs_tg hT ht).2.2.2.2)
    · exact ih (by omega)
theorem rin_u {T : List Tr} {t : Nat} {B L : List Cf} {y : Cf} (i : Nat) : up (rin T t B i L) y ↔ up L y ∨ ∃ j, j < i ∧ (cg B j).1 = (tg T t).2.1 ∧ cb (bp (tg T t) (cg B j)) y = true := by
  induction i with
  | zero => exact ⟨Or.inl, fun h => h.elim id (fun ⟨j, hj, _⟩ => absurd hj (Nat.not_lt_zero _))⟩
  | succ i ih =>
    have key : up (rin T t B (i + 1) L) y ↔ up (rin T t B i L) y ∨ (cg B i).1 = (tg T t).2.1 ∧ cb (bp (tg T t) (cg B i)) y = true := by
      show up (if (cg B i).1 = (tg T t).2.1 then _ else _) y ↔ _
      split
      · rename_i q
        rw [im_u]
        exact ⟨fun z => z.imp_right fun w => ⟨q, w⟩, fun z => z.imp_right fun w => w.2⟩
      · rename_i q
        exact ⟨Or.inl, fun z => z.elim id (fun w => absurd w.1 q)⟩
    rw [key, ih]
    constructor
    · rintro ((h | ⟨j, hj, h⟩) | h)
      · exact Or.inl h
      · exact Or.inr ⟨j, by omega, h⟩
      · exact Or.inr ⟨i, by omega, h⟩
    · rintro (h | ⟨j, hj, h⟩)
      · exact Or.inl (Or.inl h)
      · by_cases e : j = i
        · subst e; exact Or.inr h
        · exact Or.inl (Or.inr ⟨j, by omega, h⟩)
theorem rot_gd {T : List Tr} {B : List Cf} (hT : trs T) (hB : gd B) (t : Nat) (ht : t ≤ T.length) : gd (rot T B t) := by
  induction t with
  | zero => exact gsn_gd hB.1 _ (Nat.le_refl _)
  | succ t ih => exact rin_gd hT (by omega) hB.1 (ih (by omega)) _ (Nat.le_refl _)
theorem rot_u {T : List Tr} {B : List Cf} {y : Cf} (t : Nat) : up (rot T B t) y ↔ up B y ∨ ∃ s, s < t ∧ ∃ x, x ∈ B ∧ x.1 = (tg T s).2.1 ∧ cb (bp (tg T s) x) y = true := by
  induction t with
  | zero =>
    show up (gs B) y ↔ _
    rw [gs_u]
    exact ⟨Or.inl, fun h => h.elim id (fun ⟨j, hj, _⟩ => absurd hj (Nat.not_lt_zero _))⟩
  | succ t ih =>
    show up (rin T t B B.length (rot T B t)) y ↔ _
    rw [rin_u, ih, ex_cg (p := fun x => x.1 = (tg T t).2.1 ∧ cb (bp (tg T t) x) y = true)]
    constructor
    · rintro ((h | ⟨s, hs, h⟩) | h)
      · exact Or.inl h
      · exact Or.inr ⟨s, by omega, h⟩
      · exact Or.inr ⟨t, by omega, h⟩
    · rintro (h | ⟨s, hs, h⟩)
      · exact Or.inl (Or.inl h)
      · by_cases e : s = t
        · subst e; exact Or.inr h
        · exact Or.inl (Or.inr ⟨s, by omega, h⟩)
theorem rot_pr {T : List Tr} {B : List Cf} {y : Cf} : up (rot T B T.length) y ↔ up B y ∨ ∃ x, x ∈ B ∧ pr T x y := by
  rw [rot_u]
  constructor
  · rintro (h | ⟨s, hs, x, hx, h1, h2⟩)
    · exact Or.inl h
    · exact Or.inr ⟨x, hx, s, hs, h1.symm, h2⟩
  · rintro (h | ⟨x, hx, s, hs, h1, h2⟩)
    · exact Or.inl h
    · exact Or.inr ⟨s, hs, x, hx, h1.symm, h2⟩
theorem ist_gd {T : List Tr} {x : Cf} {p : Bool × List Cf} (hT : trs T) (hx : wkf x) (hp : gd p.2) (t : Nat) (ht : t ≤ T.length) : gd (ist T x t p).2 := by
  induction t with
  | zero => exact hp
  | succ t ih =>
    unfold ist
    split
    · exact im_gd (ih (by omega)) (bp_wf hx (trs_tg hT (by omega)).2.2.2.2)
    · exact ih (by omega)
theorem ist_u {T : List Tr} {x y : Cf} {p : Bool × List Cf} (t : Nat) : up (ist T x t p).2 y ↔ up p.2 y ∨ ∃ s, s < t ∧ (tg T s).2.1 = x.1 ∧ cb (bp (tg T s) x) y = true := by
  induction t with
  | zero => exact ⟨Or.inl, fun h => h.elim id (fun ⟨j, hj, _⟩ => absurd hj (Nat.not_lt_zero _))⟩
  | succ t ih =>
    have key : up (ist T x (t + 1) p).2 y ↔ up (ist T x t p).2 y ∨ (tg T t).2.1 = x.1 ∧ cb (bp (tg T t) x) y = true := by
      rw [ist]
      split
      · rename_i q
        rw [im_u]
        exact ⟨fun z => z.imp_right fun w => ⟨beq_iff_eq.mp q, w⟩, fun z => z.imp_right fun w => w.2⟩
      · rename_i q
        exact ⟨Or.inl, fun z => z.elim id (fun w => absurd (beq_iff_eq.mpr w.1) q)⟩
    rw [key, ih]
    constructor
    · rintro ((h | ⟨j, hj, h⟩) | h)
      · exact Or.inl h
      · exact Or.inr ⟨j, by omega, h⟩
      · exact Or.inr ⟨t, by omega, h⟩
    · rintro (h | ⟨j, hj, h⟩)
      · exact Or.inl (Or.inl h)
      · by_cases e : j = t
        · subst e; exact Or.inr h
        · exact Or.inl (Or.inr ⟨j, by omega, h⟩)
theorem ist_f {T : List Tr} {x : Cf} {p : Bool × List Cf} (t : Nat) (h : (ist T x t p).1 = false) : p.1 = false ∧ (ist T x t p).2 = p.2 := by
  induction t with
  | zero => exact ⟨h, rfl⟩
  | succ t ih =>
    rw [ist] at h ⊢
    split at h
    · rename_i q
      rw [if_pos q]
      have h1 := Bool.or_eq_false_iff.mp h
      obtain ⟨h2, h3⟩ := ih h1.1
      exact ⟨h2, (im_f h1.2).trans h3⟩
    · rename_i q
      rw [if_neg q]; exact ih h
theorem ist_t {T : List Tr} {x : Cf} {p : Bool × List Cf} (t : Nat) (h : (ist T x t p).1 = true) : p.1 = true ∨ ∃ c, ¬ up p.2 c ∧ up (ist T x t p).2 c := by
  induction t with
  | zero => exact Or.inl h
  | succ t ih =>
    have mono : ∀ c, up (ist T x t p).2 c → up (ist T x (t + 1) p).2 c := fun c hc => by
      rw [ist_u] at hc ⊢
      rcases hc with hc | ⟨s, hs, hc⟩
      · exact Or.inl hc
      · exact Or.inr ⟨s, by omega, hc⟩
    have go : (ist T x t p).1 = true → p.1 = true ∨ ∃ c, ¬ up p.2 c ∧ up (ist T x (t + 1) p).2 c := fun q => (ih q).imp_right fun ⟨c, h1, h2⟩ => ⟨c, h1, mono c h2⟩
    rw [ist] at h
    split at h
    · rename_i q
      rcases Bool.or_eq_true_iff.mp h with h1 | h1
      · exact go h1
      · refine Or.inr ⟨bp (tg T t) x, fun z => im_t h1 ((ist_u t).mpr (Or.inl z)), (ist_u (t + 1)).mpr (Or.inr ⟨t, by omega, beq_iff_eq.mp q, cb_rf _⟩)⟩
    · exact go h
theorem sto_gd {T : List Tr} {P L : List Cf} {p : Bool × List Cf} (hT : trs T) (hL : ∀ x, x ∈ L → wkf x) (hp : gd p.2) (i : Nat) (hi : i ≤ L.length) : gd (sto T P L i p).2 := by
  induction i with
  | zero => exact hp
  | succ i ih =>
    unfold sto
    split
    · exact ih (by omega)
    · exact ist_gd hT (hL _ (cg_mem (by omega))) (ih (by omega)) _ (Nat.le_refl _)
theorem sto_u {T : List Tr} {P L : List Cf} {p : Bool × List Cf} {y : Cf} (i : Nat) : up (sto T P L i p).2 y ↔ up p.2 y ∨ ∃ j, j < i ∧ ¬ cg L j ∈ P ∧ pr T (cg L j) y := by
  induction i with
  | zero => exact ⟨Or.inl, fun h => h.elim id (fun ⟨j, hj, _⟩ => absurd hj (Nat.not_lt_zero _))⟩
  | succ i ih =>
    have key : up (sto T P L (i + 1) p).2 y ↔ up (sto T P L i p).2 y ∨ ¬ cg L i ∈ P ∧ pr T (cg L i) y := by
      rw [sto]
      split
      · rename_i q
        exact ⟨Or.inl, fun z => z.elim id (fun w => absurd (of_decide_eq_true q) w.1)⟩
      · rename_i q
        rw [ist_u]
        exact ⟨fun z => z.imp_right fun w => ⟨fun m => q (decide_eq_true m), w⟩, fun z => z.imp_right fun w => w.2⟩
    rw [key, ih]
    constructor
    · rintro ((h | ⟨j, hj, h⟩) | h)
      · exact Or.inl h
      · exact Or.inr ⟨j, by omega, h⟩
      · exact Or.inr ⟨i, by omega, h⟩
    · rintro (h | ⟨j, hj, h⟩)
      · exact Or.inl (Or.inl h)
      · by_cases e : j = i
        · subst e; exact Or.inr h
        · exact Or.inl (Or.inr ⟨j, by omega, h⟩)
theorem sto_f {T : List Tr} {P L : List Cf} {p : Bool × List Cf} (i : Nat) (h : (sto T P L i p).1 = false) : p.1 = false ∧ (sto T P L i p).2 = p.2 := by
  induction i with
  | zero => exact ⟨h, rfl⟩
  | succ i ih =>
    rw [sto] at h ⊢
    split at h
    · rename_i q
      rw [if_pos q]; exact ih h
    · rename_i q
      rw [if_neg q]
      obtain ⟨h1, h2⟩ := ist_f _ h
      obtain ⟨h3, h4⟩ := ih h1
      exact ⟨h3, h2.trans h4⟩
theorem sto_t {T : List Tr} {P L : List Cf} {p : Bool × List Cf} (i : Nat) (h : (sto T P L i p).1 = true) : p.1 = true ∨ ∃ c, ¬ up p.2 c ∧ up (sto T P L i p).2 c := by
  induction i with
  | zero => exact Or.inl h
  | succ i ih =>
    have mono : ∀ c, up (sto T P L i p).2 c → up (sto T P L (i + 1) p).2 c := fun c hc => by
      rw [sto_u] at hc ⊢
      rcases hc with hc | ⟨s, hs, hc⟩
      · exact Or.inl hc
      · exact Or.inr ⟨s, by omega, hc⟩
    have go : (sto T P L i p).1 = true → p.1 = true ∨ ∃ c, ¬ up p.2 c ∧ up (sto T P L (i + 1) p).2 c := fun q => (ih q).imp_right fun ⟨c, h1, h2⟩ => ⟨c, h1, mono c h2⟩
    have e : sto T P L (i + 1) p = if decide (cg L i ∈ P) then sto T P L i p else ist T (cg L i) T.length (sto T P L i p) := rfl
    by_cases q : decide (cg L i ∈ P) = true
    · rw [e, if_pos q] at h
      exact go h
    · rw [e, if_neg q] at h
      rcases ist_t _ h with h1 | ⟨c, h1, h2⟩
      · exact go h1
      · refine Or.inr ⟨c, fun z => h1 ((sto_u i).mpr (Or.inl z)), ?_⟩
        rw [e, if_neg q]; exact h2
theorem bl_gd {T : List Tr} {G : List Cf} (hT : trs T) (hG : ∀ x, x ∈ G → wkf x) (k : Nat) : gd (bl T G k) := by
  induction k with
  | zero => exact gsn_gd hG _ (Nat.le_refl _)
  | succ k ih => exact sto_gd (p := (false, bl T G k)) hT ih.1 ih _ (Nat.le_refl _)
theorem bl_s (T : List Tr) (G : List Cf) (k : Nat) : bl T G (k + 1) = (sto T (pv T G k) (bl T G k) (bl T G k).length (false, bl T G k)).2 := rfl
theorem chg_s (T : List Tr) (G : List Cf) (k : Nat) : chg T G (k + 1) = (sto T (pv T G k) (bl T G k) (bl T G k).length (false, bl T G k)).1 := rfl
theorem bl_u {T : List Tr} {G : List Cf} {y : Cf} (k : Nat) : up (bl T G (k + 1)) y ↔ up (bl T G k) y ∨ ∃ x, x ∈ bl T G k ∧ pr T x y := by
  induction k generalizing y with
  | zero =>
    rw [bl_s, sto_u, ex_cg (p := fun x => ¬ x ∈ pv T G 0 ∧ pr T x y)]
    exact ⟨fun h => h.imp_right fun ⟨x, h1, h2⟩ => ⟨x, h1, h2.2⟩, fun h => h.imp_right fun ⟨x, h1, h2⟩ => ⟨x, h1, List.not_mem_nil, h2⟩⟩
  | succ k ih =>
    rw [bl_s, sto_u, ex_cg (p := fun x => ¬ x ∈ pv T G (k + 1) ∧ pr T x y)]
    constructor
    · exact fun h => h.imp_right fun ⟨x, h1, h2⟩ => ⟨x, h1, h2.2⟩
    · rintro (h | ⟨x, h1, h2⟩)
      · exact Or.inl h
      · by_cases q : x ∈ pv T G (k + 1)
        · exact Or.inl (ih.mpr (Or.inr ⟨x, q, h2⟩))
        · exact Or.inr ⟨x, h1, q, h2⟩
/-- the reference makes all predecessors again: the same -/
theorem rot_bl {T : List Tr} {G : List Cf} (hT : trs T) (hG : ∀ x, x ∈ G → wkf x) (k : Nat) : rot T (bl T G k) T.length = bl T G (k + 1) :=
  gd_eq (rot_gd hT (bl_gd hT hG k) _ (Nat.le_refl _)) (bl_gd hT hG (k + 1)) fun _ => rot_pr.trans (bl_u k).symm
theorem chg_iff {T : List Tr} {G : List Cf} (k : Nat) : chg T G (k + 1) = false ↔ bl T G (k + 1) = bl T G k := by
  constructor
  · intro h
    exact (sto_f _ h).2
  · intro h
    cases q : chg T G (k + 1) with
    | false => rfl
    | true =>
      rw [chg_s] at q
      rcases sto_t _ q with h1 | ⟨c, h1, h2⟩
      · cases h1
      · rw [← bl_s, h] at h2
        exact absurd h2 h1

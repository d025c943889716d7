/-! THE LAYER: a pure memory (cells by their numbers), and what it means that the machine comes from a place of a method to its end. Every instruction has its row here; behind this part nothing speaks of the machine any more. -/
abbrev ev_M : Type := List va_E
abbrev ev_R : Type := Option Value ⊕ String
abbrev ev_L : Type := List (Option Value)
def ev_tr (ad ax : Nat → Nat) : Value → Value
  | .ref a => .ref (ad a)
  | .retAddr k => .ref (ax k)
  | .int x => .int x
  | .long x => .long x
  | .float x => .float x
  | .double x => .double x
  | .null => .null
def ev_tA (ad : Nat → Nat) : vp_A → vp_A
  | (n, .inl f) => (n, .inl f)
  | (n, .inr (.inl f)) => (n, .inr (.inl f))
  | (n, .inr (.inr (.inl f))) => (n, .inr (.inr (.inl f)))
  | (n, .inr (.inr (.inr (.inl f)))) => (n, .inr (.inr (.inr (.inl f))))
  | (n, .inr (.inr (.inr (.inr f)))) => (n, .inr (.inr (.inr (.inr (fun i => (f i).map ad)))))
def ev_tE (ad ax cA : Nat → Nat) : va_E → va_E
  | .inl a => .inl (cA a.1, ev_tA ad a.2)
  | .inr o => .inr (o.1, o.2.map (ev_tr ad ax))
def ev_wl (ad ax cA : Nat → Nat) (M : ev_M) : va_W := M.mapIdx (fun k e => (ad k, ev_tE ad ax cA e))
/-- no name of a cell that isn't there -/
def ev_ok (n : Nat) : Value → Prop
  | .ref a => a < n
  | _ => True
def ev_okE (n : Nat) : va_E → Prop
  | .inl (_, _, .inr (.inr (.inr (.inr f)))) => ∀ i k, f i = some k → k < n
  | .inl _ => True
  | .inr o => ∀ v ∈ o.2, ev_ok n v
def ev_okM (M : ev_M) : Prop := ∀ (k : Nat) (e : va_E), M[k]? = some e → ev_okE M.length e
def ev_okS (n : Nat) (st : List Value) : Prop := ∀ v ∈ st, ev_ok n v
def ev_okL (n : Nat) (ls : ev_L) : Prop := ∀ (i : Nat) (v : Value), ls[i]? = some (some v) → ev_ok n v
theorem ev_ok_le {n k : Nat} (h : n ≤ k) {v : Value} (hv : ev_ok n v) : ev_ok k v := by
  cases v <;> first | exact trivial | exact Nat.lt_of_lt_of_le hv h
theorem ev_okE_le {n k : Nat} (h : n ≤ k) {e : va_E} (he : ev_okE n e) : ev_okE k e := by
  rcases e with ⟨t, c, f | f | f | f | f⟩ | ⟨ci, fs⟩
  · exact trivial
  · exact trivial
  · exact trivial
  · exact trivial
  · exact fun i j hj => Nat.lt_of_lt_of_le (he i j hj) h
  · exact fun v hv => ev_ok_le h (he v hv)
theorem ev_okS_le {n k : Nat} (h : n ≤ k) {st : List Value} (hs : ev_okS n st) : ev_okS k st := fun v hv => ev_ok_le h (hs v hv)
theorem ev_okL_le {n k : Nat} (h : n ≤ k) {ls : ev_L} (hs : ev_okL n ls) : ev_okL k ls := fun i v hv => ev_ok_le h (hs i v hv)
theorem ev_tr_eq {n : Nat} {ad ad' ax : Nat → Nat} (h : ∀ k, k < n → ad' k = ad k) {v : Value} (hv : ev_ok n v) : ev_tr ad' ax v = ev_tr ad ax v := by
  cases v <;> first | rfl | exact congrArg Value.ref (h _ hv)
theorem ev_tE_eq {n : Nat} {ad ad' ax cA : Nat → Nat} (h : ∀ k, k < n → ad' k = ad k) {e : va_E} (he : ev_okE n e) : ev_tE ad' ax cA e = ev_tE ad ax cA e := by
  rcases e with ⟨t, c, f | f | f | f | f⟩ | ⟨ci, fs⟩
  · rfl
  · rfl
  · rfl
  · rfl
  · show (Sum.inl (cA t, c, Sum.inr (Sum.inr (Sum.inr (Sum.inr (fun i => (f i).map ad'))))) : va_E) = Sum.inl (cA t, c, Sum.inr (Sum.inr (Sum.inr (Sum.inr (fun i => (f i).map ad)))))
    have : (fun i => (f i).map ad') = (fun i => (f i).map ad) := by
      funext i
      cases hf : f i with
      | none => rfl
      | some k => exact congrArg some (h k (he i k hf))
    rw [this]
  · show (Sum.inr (ci, fs.map (ev_tr ad' ax)) : va_E) = Sum.inr (ci, fs.map (ev_tr ad ax))
    have : fs.map (ev_tr ad' ax) = fs.map (ev_tr ad ax) := List.map_congr_left fun v hv => ev_tr_eq h (he v hv)
    rw [this]
theorem ev_wl_get {ad ax cA : Nat → Nat} {M : ev_M} {k : Nat} {e : va_E} (h : M[k]? = some e) : (ev_wl ad ax cA M)[k]? = some (ad k, ev_tE ad ax cA e) := by
  simp [ev_wl, h]
theorem ev_wl_of {ad ax cA : Nat → Nat} {M : ev_M} {k : Nat} {q : Nat × va_E} (h : (ev_wl ad ax cA M)[k]? = some q) : ∃ e, M[k]? = some e ∧ q = (ad k, ev_tE ad ax cA e) := by
  simp only [ev_wl, List.getElem?_mapIdx] at h
  cases hm : M[k]? with
  | none => rw [hm] at h; cases h
  | some e => rw [hm] at h; exact ⟨e, rfl, (Option.some.inj h).symm⟩
theorem ev_wl_set {ad ax cA : Nat → Nat} {M : ev_M} {k : Nat} {e : va_E} : (ev_wl ad ax cA M).set k (ad k, ev_tE ad ax cA e) = ev_wl ad ax cA (M.set k e) := by
  apply List.ext_getElem?
  intro i
  simp only [ev_wl, List.getElem?_set, List.getElem?_mapIdx, List.length_mapIdx]
  by_cases h : k = i
  · subst h
    by_cases h2 : k < M.length
    · simp [h2]
    · simp [h2]
  · simp [h]
theorem ev_wl_eq {ad ad' ax cA : Nat → Nat} {M : ev_M} (h : ∀ k, k < M.length → ad' k = ad k) (hM : ev_okM M) : ev_wl ad' ax cA M = ev_wl ad ax cA M := by
  apply List.ext_getElem?
  intro i
  simp only [ev_wl, List.getElem?_mapIdx]
  cases hm : M[i]? with
  | none => rfl
  | some e =>
    have hi : i < M.length := (List.getElem?_eq_some_iff.mp hm).1
    simp only [Option.map_some]
    rw [h i hi, ev_tE_eq h (hM i e hm)]
theorem ev_wl_app {ad ax cA : Nat → Nat} {M : ev_M} {e : va_E} : ev_wl ad ax cA (M ++ [e]) = ev_wl ad ax cA M ++ [(ad M.length, ev_tE ad ax cA e)] := by
  simp [ev_wl, List.mapIdx_append]
theorem ev_okM_set {M : ev_M} {k : Nat} {e : va_E} (hM : ev_okM M) (he : ev_okE M.length e) : ev_okM (M.set k e) := by
  intro i x hx
  rw [List.length_set]
  rw [List.getElem?_set] at hx
  split at hx
  · split at hx
    · exact Option.some.inj hx ▸ he
    · cases hx
  · exact hM i x hx
theorem ev_okM_app {M : ev_M} {e : va_E} (hM : ev_okM M) (he : ev_okE (M.length + 1) e) : ev_okM (M ++ [e]) := by
  intro i x hx
  rw [List.length_append, List.length_singleton]
  by_cases hi : i < M.length
  · rw [List.getElem?_append_left hi] at hx
    exact ev_okE_le (Nat.le_succ _) (hM i x hx)
  · rw [List.getElem?_append_right (by omega)] at hx
    have h0 : i - M.length < 1 := (List.getElem?_eq_some_iff.mp hx).1
    rw [show i - M.length = 0 by omega] at hx
    exact Option.some.inj hx ▸ he
theorem ev_ok_fs {M : ev_M} {o ci k : Nat} {fs : List Value} {v : Value} (hM : ev_okM M) (hm : M[o]? = some (.inr (ci, fs))) (hv : fs[k]? = some v) : ev_ok M.length v := hM o _ hm v (List.mem_of_getElem? hv)
/-! the words -/
def ev_bw : List Cond := lw_tbl.filter goodWord
theorem ev_bg {w : Cond} (h : w ∈ lw_tbl) (g : goodWord w = true) : w ∈ ev_bw := List.mem_filter.mpr ⟨h, g⟩
theorem ev_bt {w : Cond} (h : w ∈ tables_1) (g : goodWord w = true) : w ∈ ev_bw := ev_bg (List.mem_append_right _ h) g
theorem ev_bw_good : ∀ w ∈ ev_bw, goodWord w = true := fun _ h => (List.mem_filter.mp h).2
/-! locals -/
def ev_lsl (f : Value → Value) (ls : ev_L) : List (Nat × Value) := ls.zipIdx.filterMap (fun q => q.1.map (fun v => (q.2, f v)))
theorem ev_mem {f : Value → Value} {ls : ev_L} {i : Nat} {w : Value} : (i, w) ∈ ev_lsl f ls ↔ ∃ v, ls[i]? = some (some v) ∧ w = f v := by
  simp only [ev_lsl, List.mem_filterMap, Prod.exists, Option.map_eq_some_iff, Prod.mk.injEq]
  constructor
  · rintro ⟨o, k, hk, v, rfl, rfl, rfl⟩
    exact ⟨v, by simpa [List.mem_zipIdx_iff_getElem?] using hk, rfl⟩
  · rintro ⟨v, hv, rfl⟩
    exact ⟨some v, i, by simpa [List.mem_zipIdx_iff_getElem?] using hv, v, rfl, rfl, rfl⟩
def ev_gl (ls : ev_L) (i : Nat) : Option Value := match ls[i]? with
  | some (some v) => some v
  | _ => none
theorem ev_gl_eq {ls : ev_L} {i : Nat} {v : Value} (h : ev_gl ls i = some v) : ls[i]? = some (some v) := by
  unfold ev_gl at h
  split at h
  · rename_i x hx; cases h; exact hx
  · cases h
def ev_c2 (v : Value) : Bool := match v with
  | .long _ => true
  | .double _ => true
  | _ => false
theorem ev_c2_cat (ad ax : Nat → Nat) (v : Value) : (ev_tr ad ax v).category = if ev_c2 v = true then 2 else 1 := by cases v <;> rfl
/-- what lies ahead of a place that is written, if it is wide, is lost -/
def ev_cl (ls : ev_L) (i : Nat) : ev_L := match i with
  | 0 => ls
  | j + 1 => match ls[j]? with
    | some (some v) => if ev_c2 v then ls.set j none else ls
    | _ => ls
def ev_sl (ls : ev_L) (i : Nat) (v : Value) : ev_L := bif ev_c2 v then ((ev_cl ls i).set i (some v)).set (i + 1) none else (ev_cl ls i).set i (some v)
theorem ev_cl_len (ls : ev_L) (i : Nat) : (ev_cl ls i).length = ls.length := by
  unfold ev_cl
  split
  · rfl
  · split
    · split
      · exact List.length_set
      · rfl
    · rfl
theorem ev_sl_len (ls : ev_L) (i : Nat) (v : Value) : (ev_sl ls i v).length = ls.length := by
  unfold ev_sl
  cases ev_c2 v
  · simp [ev_cl_len]
  · simp [ev_cl_len]
theorem ev_cl_in {ls : ev_L} {i j : Nat} {v : Value} (h : (ev_cl ls i)[j]? = some (some v)) : ls[j]? = some (some v) ∧ ¬ (j + 1 = i ∧ ev_c2 v = true) := by
  unfold ev_cl at h
  split at h
  · exact ⟨h, fun q => by omega⟩
  · rename_i k
    split at h
    · rename_i x hx
      split at h
      · rw [List.getElem?_set] at h
        split at h
        · split at h <;> cases h
        · rename_i hne
          exact ⟨h, fun q => hne (by omega)⟩
      · rename_i hc
        refine ⟨h, fun q => ?_⟩
        have : k = j := by omega
        subst this
        rw [hx] at h
        cases h
        exact hc q.2
    · rename_i hno
      refine ⟨h, fun q => ?_⟩
      have : k = j := by omega
      subst this
      exact hno _ h
theorem ev_sl_in {ls : ev_L} {i j : Nat} {v w : Value} (h : (ev_sl ls i w)[j]? = some (some v)) : (j = i ∧ v = w) ∨ (ls[j]? = some (some v) ∧ j ≠ i ∧ ¬ (j + 1 = i ∧ ev_c2 v = true) ∧ (ev_c2 w = true → j ≠ i + 1)) := by
  unfold ev_sl at h
  cases hc : ev_c2 w with
  | false =>
    simp only [hc, cond_false] at h
    rw [List.getElem?_set] at h
    split at h
    · rename_i e
      split at h
      · exact Or.inl ⟨e.symm, (Option.some.inj (Option.some.inj h)).symm⟩
      · cases h
    · rename_i hne
      obtain ⟨h1, h2⟩ := ev_cl_in h
      exact Or.inr ⟨h1, fun q => hne q.symm, h2, fun q => by cases q⟩
  | true =>
    simp only [hc, cond_true] at h
    rw [List.getElem?_set] at h
    split at h
    · split at h <;> cases h
    · rename_i hne1
      rw [List.getElem?_set] at h
      split at h
      · rename_i e
        split at h
        · exact Or.inl ⟨e.symm, (Option.some.inj (Option.some.inj h)).symm⟩
        · cases h
      · rename_i hne
        obtain ⟨h1, h2⟩ := ev_cl_in h
        exact Or.inr ⟨h1, fun q => hne q.symm, h2, fun _ q => hne1 q.symm⟩
theorem ev_okL_sl {n : Nat} {ls : ev_L} {i : Nat} {v : Value} (h : ev_okL n ls) (hv : ev_ok n v) : ev_okL n (ev_sl ls i v) := by
  intro j w hw
  rcases ev_sl_in hw with ⟨-, rfl⟩ | ⟨h1, -⟩
  · exact hv
  · exact h j w h1
/-- the machine's locals behind a store, as the pure ones have them -/
theorem ev_st1 {ad ax : Nat → Nat} {ls : ev_L} {lsA : Array Slot} {nL i : Nat} {v : Value} (hc : ev_c2 v = false) (h : lv_has lsA nL ((i, ev_tr ad ax v) :: (ev_lsl (ev_tr ad ax) ls).filter (fun q => !(q.1 == i) && !(q.1 + 1 == i && q.2.category == 2)))) : lv_has lsA nL (ev_lsl (ev_tr ad ax) (ev_sl ls i v)) := by
  refine ⟨h.1, h.2.1, fun q hq => h.2.2 q ?_⟩
  obtain ⟨j, w⟩ := q
  obtain ⟨x, hx, rfl⟩ := ev_mem.mp hq
  rcases ev_sl_in hx with ⟨rfl, rfl⟩ | ⟨h1, h2, h3, -⟩
  · exact List.mem_cons_self
  · refine List.mem_cons_of_mem _ (List.mem_filter.mpr ⟨ev_mem.mpr ⟨x, h1, rfl⟩, ?_⟩)
    simp only [ev_c2_cat, Bool.and_eq_true, Bool.not_eq_true', beq_eq_false_iff_ne, ne_eq, Bool.and_eq_false_imp, beq_iff_eq]
    refine ⟨h2, fun e => ?_⟩
    cases hx2 : ev_c2 x with
    | false => simp
    | true => exact absurd ⟨e, hx2⟩ h3
theorem ev_st2 {ad ax : Nat → Nat} {ls : ev_L} {lsA : Array Slot} {nL i : Nat} {v : Value} (hc : ev_c2 v = true) (h : lv_has lsA nL ((i, ev_tr ad ax v) :: (ev_lsl (ev_tr ad ax) ls).filter (fun q => !(q.1 == i) && (!(q.1 == i + 1) && !(q.1 + 1 == i && q.2.category == 2))))) : lv_has lsA nL (ev_lsl (ev_tr ad ax) (ev_sl ls i v)) := by
  refine ⟨h.1, h.2.1, fun q hq => h.2.2 q ?_⟩
  obtain ⟨j, w⟩ := q
  obtain ⟨x, hx, rfl⟩ := ev_mem.mp hq
  rcases ev_sl_in hx with ⟨rfl, rfl⟩ | ⟨h1, h2, h3, h4⟩
  · exact List.mem_cons_self
  · refine List.mem_cons_of_mem _ (List.mem_filter.mpr ⟨ev_mem.mpr ⟨x, h1, rfl⟩, ?_⟩)
    have h5 := h4 hc
    simp only [ev_c2_cat, Bool.and_eq_true, Bool.not_eq_true', beq_eq_false_iff_ne, ne_eq, Bool.and_eq_false_imp, beq_iff_eq]
    refine ⟨h2, h5, fun e => ?_⟩
    cases hx2 : ev_c2 x with
    | false => simp
    | true => exact absurd ⟨e, hx2⟩ h3

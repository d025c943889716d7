/-- words of the tables that stay, but are no 'good' ones -/
def ev_fc (w : Cond) : Bool := w.onTables && w.keepsFace
def ev_fw : List Cond := lw_tbl.filter ev_fc
theorem ev_fw_to {w : Cond} (hw : w ∈ ev_fw) {s U : State} (hW : s.WarmedH U.vm) (h : va_Nw w s) : va_Nw w U := by
  have h1 := (List.mem_filter.mp hw).2
  simp only [ev_fc, Bool.and_eq_true] at h1
  exact va_tabs h1.1 (rfl : (s.setVm U.vm).vm = U.vm) (Cond.before_shiftedFace (State.Shifted.of_warmed hW) w h1.2 h)
/-- exceptions of the first class aren't caught as the second -/
def ev_nc : List (String × String) := [("java/lang/IllegalStateException", "java/lang/IllegalArgumentException"), ("java/lang/IllegalArgumentException", "java/lang/IndexOutOfBoundsException"), ("java/lang/IllegalStateException", "java/lang/IndexOutOfBoundsException"), ("java/util/NoSuchElementException", "java/lang/IndexOutOfBoundsException"), ("java/lang/IllegalStateException", "java/lang/UnsupportedOperationException"), ("java/lang/IndexOutOfBoundsException", "java/lang/UnsupportedOperationException"), ("java/lang/IndexOutOfBoundsException", "java/lang/IllegalStateException"), ("java/lang/IllegalArgumentException", "java/lang/UnsupportedOperationException"), ("java/lang/IllegalArgumentException", "java/lang/IllegalStateException"), ("java/util/NoSuchElementException", "java/lang/UnsupportedOperationException"), ("java/util/NoSuchElementException", "java/lang/IllegalStateException")]
/-- what lies outside the pure memory and is never written: 0 to 3 the four rows of signs of the reference, 4 to 7 the class's four names, 8 to 11 their bytes; what a throw needs; the texts that are thrown -/
def ev_X (ax : Nat → Nat) (A : Nat → Prop) (U : State) (H : Heap) : Prop :=
  (∀ k, k < 4 → va_Z "LossyChannelsModel" (ev_wn k) "[C" (.ref (ax k)) A U H ∧ va_T .char (ax k) 4 (fun j => .int ((ev_wc k).getD j 0)) A U H) ∧
  (∀ k, k < 4 → vk_R "LossyChannels$TextReader" (ev_si k) (ev_sx k) (ax (4 + k)) U ∧ va_O "java/lang/String" (ax (4 + k)) A U H ∧ va_OF "java/lang/String" "coder" "B" (.int 0) (ax (4 + k)) A U H ∧ va_OF "java/lang/String" "value" "[B" (.ref (ax (8 + k))) (ax (4 + k)) A U H ∧ va_T .byte (ax (8 + k)) 4 (fun j => .int ((ev_wc k).getD j 0)) A U H) ∧
  va_Z "java/lang/String" "COMPACT_STRINGS" "Z" (.int 1) A U H ∧ va_Zq "jdk/internal/util/Preconditions" "SIOOBE_FORMATTER" "Ljava/util/function/BiFunction;" A U H ∧
  vx_Zq Bundle.tN "UNASSIGNED_STACK" Bundle.steD A U H ∧ vx_Zq Bundle.tN "SUPPRESSED_SENTINEL" Bundle.listD A U H ∧
  va_AO "LossyChannels$Configs" U ∧ (∀ q ∈ ev_strs, ∃ sa, vk_R q.1 q.2.1 q.2.2 sa U) ∧ (∀ w ∈ ev_fw, va_Nw w U) ∧ ∀ q ∈ ev_nc, va_Nc q.1 q.2 U
theorem ev_X.moved {ax : Nat → Nat} {A : Nat → Prop} {u U : State} {H : Heap} (hW : u.WarmedH U.vm) (h : ev_X ax A u H) : ev_X ax A U H := by
  obtain ⟨h1, h2, h3, h4, h5, h6, h7, h8, h9, h10⟩ := h
  have hv := hW.alike
  refine ⟨fun k hk => ⟨(h1 k hk).1.moved hv, (h1 k hk).2.moved hv⟩, fun k hk => ⟨(h2 k hk).1.warm hW, (h2 k hk).2.1.moved hv, (h2 k hk).2.2.1.moved hv, (h2 k hk).2.2.2.1.moved hv, (h2 k hk).2.2.2.2.moved hv⟩, h3.moved hv, h4.moved hv, h5.moved hv, h6.moved hv, h7.moved hv, fun q hq => ?_, fun w hw => ev_fw_to hw hW (h9 w hw), fun q hq => (h10 q hq).moved hv⟩
  obtain ⟨sa, hs⟩ := h8 q hq
  exact ⟨sa, hs.warm hW⟩
theorem ev_X.kept {ax : Nat → Nat} {A : Nat → Prop} {U : State} {H H1 : Heap} (h : ev_X ax A U H) (hq : ∀ a : Nat, a < H.size → ¬ A a → H1[a]? = H[a]?) : ev_X ax A U H1 := by
  obtain ⟨h1, h2, h3, h4, h5, h6, h7, h8, h9, h10⟩ := h
  exact ⟨fun k hk => ⟨(h1 k hk).1.kept hq, (h1 k hk).2.kept hq⟩, fun k hk => ⟨(h2 k hk).1, (h2 k hk).2.1.kept hq, (h2 k hk).2.2.1.kept hq, (h2 k hk).2.2.2.1.kept hq, (h2 k hk).2.2.2.2.kept hq⟩, h3.kept hq, h4.kept hq, h5.kept hq, h6.kept hq, h7, h8, h9, h10⟩
theorem ev_X.narrow {ax : Nat → Nat} {A B : Nat → Prop} {U : State} {H : Heap} (h : ev_X ax A U H) (hAB : ∀ q, B q → A q) : ev_X ax B U H := by
  obtain ⟨h1, h2, h3, h4, h5, h6, h7, h8, h9, h10⟩ := h
  exact ⟨fun k hk => ⟨(h1 k hk).1.narrow hAB, (h1 k hk).2.narrow hAB⟩, fun k hk => ⟨(h2 k hk).1, (h2 k hk).2.1.narrow hAB, (h2 k hk).2.2.1.narrow hAB, (h2 k hk).2.2.2.1.narrow hAB, (h2 k hk).2.2.2.2.narrow hAB⟩, h3.narrow hAB, h4.narrow hAB, h5.narrow hAB, h6.narrow hAB, h7, h8, h9, h10⟩
theorem ev_X.same {ax : Nat → Nat} {A : Nat → Prop} {u U : State} {H : Heap} (hv : U.vm = u.vm) (h : ev_X ax A u H) : ev_X ax A U H := h.moved (by rw [hv]; exact State.WarmedH.refl u)
/-- a method, as it stands: name, code, locals, what it returns, its handlers; the room that it asks: frames, locals; what it may make: cells, slots -/
abbrev ev_MI : Type := MethodName × ByteArray × Nat × Option FieldType × List (Nat × Nat × Nat × Nat) × Nat × Nat × Nat × Nat
abbrev ev_y (m : ev_MI) : MethodName := m.1
abbrev ev_c (m : ev_MI) : ByteArray := m.2.1
abbrev ev_n (m : ev_MI) : Nat := m.2.2.1
abbrev ev_r (m : ev_MI) : Option FieldType := m.2.2.2.1
abbrev ev_h (m : ev_MI) : List (Nat × Nat × Nat × Nat) := m.2.2.2.2.1
abbrev ev_fr (m : ev_MI) : Nat := m.2.2.2.2.2.1
abbrev ev_lo (m : ev_MI) : Nat := m.2.2.2.2.2.2.1
abbrev ev_mc (m : ev_MI) : Nat := m.2.2.2.2.2.2.2.1
abbrev ev_ms (m : ev_MI) : Nat := m.2.2.2.2.2.2.2.2
def ev_rm (m : ev_MI) : Room := { frames := ev_fr m, cells := ev_mc m, slots := ev_ms m, locals := ev_lo m }
def ev_w (m : ev_MI) : Cond := match ev_h m with
  | [] => .code (ev_y m) (ev_c m) (ev_n m) (ev_r m)
  | hh => .codeWith (ev_y m) (ev_c m) (ev_n m) (ev_r m) hh
def ev_ws (m : ev_MI) : List Cond := ev_w m :: ev_bw
def ev_tys (cA : Nat → Nat) : List (ClassId × FieldType) := [(cA 0, .int), (cA 1, .long), (cA 2, .char), (cA 3, .object "LossyChannels$Configs")]
def ev_Pc (D : va_G) (ad ax cA : Nat → Nat) (sz : Nat) (as : List Value) (M : ev_M) : Array Value → State → Prop :=
  va_Pc (as.map (ev_tr ad ax)) (fun U => U.heap.size = sz ∧ va_P D vwCl (ev_wl ad ax cA M) U.heap ∧ va_K D vwCl (ev_tys cA) U ∧ va_D (fun _ => True) (ev_wl ad ax cA M) ∧ ev_X ax (va_A (ev_wl ad ax cA M) sz) U U.heap)
/-- the end of a method: what it answers (or throws), and the memory then -/
def ev_End (D : va_G) (ad0 ax cA : Nat → Nat) (A : Nat → Prop) (L0 : Nat) (Q : ev_R → ev_M → Prop) (oc : (Nat → Nat) → ev_R → Prop) (st t : State) : Prop :=
  (∃ (r : ev_R) (M' : ev_M) (ad' : Nat → Nat), L0 ≤ M'.length ∧ (∀ k, k < L0 → ad' k = ad0 k) ∧ oc ad' r ∧ Q r M' ∧ ev_okM M' ∧ (∀ v, r = .inl (some v) → ev_ok M'.length v) ∧ va_P D vwCl (ev_wl ad' ax cA M') t.heap ∧ va_D A (ev_wl ad' ax cA M')) ∧ va_F A st t
def ev_Qc (D : va_G) (ad0 ax cA : Nat → Nat) (A : Nat → Prop) (L0 : Nat) (Q : ev_R → ev_M → Prop) : Array Value → State → Outcome → State → Prop :=
  fun _ st o t => ev_End D ad0 ax cA A L0 Q (fun ad' r => ∃ v : Option Value, r = .inl v ∧ o = .returned (v.map (ev_tr ad' ax))) st t
def ev_XC (D : va_G) (ad0 ax cA : Nat → Nat) (A : Nat → Prop) (L0 : Nat) (Q : ev_R → ev_M → Prop) : String → State → State → Prop :=
  fun E st t => ev_End D ad0 ax cA A L0 Q (fun _ r => r = .inr E) st t
/-- THE CONTRACT of a call: from these arguments and this memory it comes to an end with Q -/
def ev_Mt (l : Launch) (mi : ev_MI) (as : List Value) (M : ev_M) (Q : ev_R → ev_M → Prop) : Prop :=
  ev_okM M → ev_okS M.length as → ∀ (D : va_G) (ad ax cA : Nat → Nat) (sz : Nat),
    vx_Met l (ev_y mi) (ev_ws mi) (ev_rm mi) (ev_Pc D ad ax cA sz as M) (ev_Qc D ad ax cA (va_A (ev_wl ad ax cA M) sz) M.length Q) (ev_XC D ad ax cA (va_A (ev_wl ad ax cA M) sz) M.length Q) (ev_mc mi) (ev_ms mi) (va_A (ev_wl ad ax cA M) sz)
def ev_Cx (l : Launch) (mi : ev_MI) (p : Program) (s : State) (m : MethodId) (args : Array Value) (meth : Method) (c : Code) : Prop :=
  l.stackTraces = false ∧ p.tables.exec = Jvm.exec ∧ c.code = ev_c mi ∧ c.maxLocals = ev_n mi ∧ s.vm.findClass (ev_y mi).cls = some m.cls ∧ (∀ w ∈ ev_bw, w.before args s = true) ∧ meth.locks = false ∧ meth.sig.returnType = ev_r mi ∧ meth.name = (ev_y mi).name ∧ c.exceptionTable.toList = tableOf (ev_h mi)
/-- the machine, at pc of mi with these locals, stack and memory, having made kc cells of ks slots, comes to mi's end with Q -/
def ev_ (l : Launch) (mi : ev_MI) (kc ks pc : Nat) (ls : ev_L) (st : List Value) (M : ev_M) (Q : ev_R → ev_M → Prop) : Prop :=
  ∀ (p : Program) (e : Env) (s : State) (m : MethodId) (args : Array Value) (below : List Frame) (meth : Method) (c : Code) (D : va_G) (ad0 ad ax cA : Nat → Nat) (A : Nat → Prop) (H : Heap) (locs : List Loc) (lsA : Array Slot) (L0 : Nat),
    ev_Cx l mi p s m args meth c → va_S A s.heap H locs → (∀ q, s.heap.size ≤ q → A q) → L0 ≤ M.length → (∀ k, k < L0 → ad k = ad0 k) →
    va_P D vwCl (ev_wl ad ax cA M) H → va_D A (ev_wl ad ax cA M) → va_K D vwCl (ev_tys cA) s → ev_X ax A s s.heap → ev_okM M → ev_okS M.length st → ev_okL M.length ls →
    lv_has lsA (ev_n mi) (ev_lsl (ev_tr ad ax) ls) → ls.length = ev_n mi →
    W p l e (ev_rm mi) s m args below meth c H locs kc ks (vx_MQ below (ev_Qc D ad0 ax cA A L0 Q) (ev_XC D ad0 ax cA A L0 Q) args s (ev_mc mi) (ev_ms mi) A) (F0 m pc lsA (st.map (ev_tr ad ax)))
def ev_en (as : List Value) : ev_L := as.flatMap (fun v => bif ev_c2 v then [some v, none] else [some v])
def ev_entry (as : List Value) (n : Nat) : ev_L := ev_en as ++ List.replicate (n - (ev_en as).length) none
theorem ev_entry_at (ad ax : Nat → Nat) : ∀ (as : List Value) (b i : Nat) (v : Value), (ev_en as)[i]? = some (some v) → (b + i, ev_tr ad ax v) ∈ lv_args b (as.map (ev_tr ad ax)) := by
  intro as
  induction as with
  | nil => intro b i v h; simp [ev_en] at h
  | cons a r ih =>
    intro b i v h
    have hc := ev_c2_cat ad ax a
    cases h2 : ev_c2 a with
    | false =>
      rw [h2] at hc
      have e1 : ev_en (a :: r) = some a :: ev_en r := by simp [ev_en, h2]
      rw [e1] at h
      simp only [List.map_cons, lv_args, hc]
      cases i with
      | zero => simp at h; subst h; simp
      | succ j =>
        simp only [List.getElem?_cons_succ] at h
        have := ih (b + 1) j v h
        simp only [Bool.false_eq_true, if_false] at *
        refine List.mem_cons_of_mem _ ?_
        simpa [Nat.add_assoc, Nat.add_comm 1 j] using this
    | true =>
      rw [h2] at hc
      have e1 : ev_en (a :: r) = some a :: none :: ev_en r := by simp [ev_en, h2]
      rw [e1] at h
      simp only [List.map_cons, lv_args, hc]
      match i, h with
      | 0, h => simp at h; subst h; simp
      | 1, h => simp at h
      | j + 2, h =>
        simp only [List.getElem?_cons_succ] at h
        have := ih (b + 2) j v h
        simp only [if_true] at *
        refine List.mem_cons_of_mem _ ?_
        simpa [Nat.add_assoc, Nat.add_comm 2 j] using this
theorem ev_en_len (ad ax : Nat → Nat) (as : List Value) : (lg_sl (as.map (ev_tr ad ax))).length = (ev_en as).length := by
  induction as with
  | nil => rfl
  | cons a r ih =>
    have hc := ev_c2_cat ad ax a
    simp only [lg_sl, ev_en, List.map_cons, List.flatMap_cons, List.length_append] at ih ⊢
    rw [ih]
    cases h2 : ev_c2 a <;> rw [h2] at hc <;> simp [hc]
theorem ev_okL_entry {n k : Nat} {as : List Value} (h : ev_okS n as) : ev_okL n (ev_entry as k) := by
  intro i v hi
  have hm := List.mem_of_getElem? hi
  unfold ev_entry at hm
  rcases List.mem_append.mp hm with h1 | h1
  · unfold ev_en at h1
    obtain ⟨a, ha, hb⟩ := List.mem_flatMap.mp h1
    cases h2 : ev_c2 a <;> rw [h2] at hb <;> simp at hb <;> exact hb ▸ h a ha
  · have := (List.mem_replicate.mp h1).2
    cases this
/-- A CONTRACT OUT OF A WALK of the body -/
theorem ev_body {l : Launch} (hl : l.stackTraces = false) {mi : ev_MI} {as : List Value} {M : ev_M} {Q : ev_R → ev_M → Prop} (hh : ev_h mi = []) (hp : plainName (ev_y mi).cls = true) (hn : (ev_en as).length ≤ ev_n mi)
    (k : ev_ l mi 0 0 0 (ev_entry as (ev_n mi)) [] M Q) : ev_Mt l mi as M Q := by
  intro hoM hoS D ad ax cA sz
  have hw : ev_ws mi = Cond.code (ev_y mi) (ev_c mi) (ev_n mi) (ev_r mi) :: ev_bw := by unfold ev_ws ev_w; rw [hh]
  refine vx_ofW (cc := ev_c mi) (maxL := ev_n mi) (ret := ev_r mi) hp hw ?_
  intro p e s m args below meth c s₁ B hml htab hv
  obtain ⟨rfl, hsz, hP, hK, hD0, hX⟩ := hv
  subst hsz
  have hts := atoms_spec (ws := ev_ws mi) B.pre
  have hD : va_D (va_A (ev_wl ad ax cA M) s.heap.size) (ev_wl ad ax cA M) := hD0.self
  have hl0 := lv_entry (as.map (ev_tr ad ax)) (n := ev_n mi) (by rw [ev_en_len]; exact hn)
  rw [lg_entry_eq]
  refine k p e s m _ below meth c D ad ad ax cA _ s.heap [] _ M.length ⟨hl, B.exec, B.bytes, hml, findClass_of_methodNamed B.named, fun w hw => hts w (List.mem_cons_of_mem _ hw), B.notSynchronized, B.returns, (name_of_methodNamed B.named B.method).1, ?_⟩ va_S.rf (fun q h => Or.inr h) (Nat.le_refl _) (fun _ _ => rfl) hP hD hK hX hoM (fun _ h => by cases h) (ev_okL_entry hoS) ?_ ?_
  · rw [hh]
    have : c.exceptionTable.toList = [] := List.eq_nil_iff_forall_not_mem.mpr htab
    rw [this]; rfl
  · refine ⟨hl0.1, hl0.2.1, fun q hq => hl0.2.2 q ?_⟩
    obtain ⟨j, w⟩ := q
    obtain ⟨v, hv, rfl⟩ := ev_mem.mp hq
    unfold ev_entry at hv
    by_cases hj : j < (ev_en as).length
    · rw [List.getElem?_append_left hj] at hv
      have := ev_entry_at ad ax as 0 j v hv
      simpa using this
    · rw [List.getElem?_append_right (by omega)] at hv
      have := (List.mem_replicate.mp (List.mem_of_getElem? hv)).2
      cases this
  · unfold ev_entry
    rw [List.length_append, List.length_replicate]; omega

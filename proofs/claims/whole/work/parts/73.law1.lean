/-! ===== methods that catch ===== -/
section
variable {l : Launch} {mi mj : ev_MI} {kc ks pc : Nat} {ls : ev_L} {st : List Value} {M : ev_M} {Q : ev_R → ev_M → Prop}
theorem ev_bodyH (hl : l.stackTraces = false) {as : List Value} (hh : ∃ a b, ev_h mi = a :: b) (hp : plainName (ev_y mi).cls = true) (hn : (ev_en as).length ≤ ev_n mi)
    (k : ev_ l mi 0 0 0 (ev_entry as (ev_n mi)) [] M Q) : ev_Mt l mi as M Q := by
  intro hoM hoS D ad ax cA sz
  obtain ⟨h1, h2, h3⟩ := hh
  have hw : ev_ws mi = Cond.codeWith (ev_y mi) (ev_c mi) (ev_n mi) (ev_r mi) (ev_h mi) :: ev_bw := by unfold ev_ws ev_w; rw [h3]
  refine vx_ofWH (cc := ev_c mi) (maxL := ev_n mi) (ret := ev_r mi) (hh := ev_h mi) hp hw ?_
  intro p e s m args below meth c s₁ B hml hv
  obtain ⟨rfl, hsz, hP, hK, hD0, hX⟩ := hv
  subst hsz
  have hts := atoms_spec (ws := ev_ws mi) B.pre
  have hD : va_D (va_A (ev_wl ad ax cA M) s.heap.size) (ev_wl ad ax cA M) := hD0.self
  have hl0 := lv_entry (as.map (ev_tr ad ax)) (n := ev_n mi) (by rw [ev_en_len]; exact hn)
  rw [lg_entry_eq]
  refine k p e s m _ below meth c D ad ad ax cA _ s.heap [] _ M.length ⟨hl, B.exec, B.bytes, hml, findClass_of_methodNamed B.named, fun w hw => hts w (List.mem_cons_of_mem _ hw), B.notSynchronized, B.returns, (name_of_methodNamed B.named B.method).1, vx_table (x := ev_y mi) B (hts _ (by rw [hw]; exact List.mem_cons_self))⟩ va_S.rf (fun q h => Or.inr h) (Nat.le_refl _) (fun _ _ => rfl) hP hD hK hX hoM (fun _ h => by cases h) (ev_okL_entry hoS) ?_ ?_
  · refine ⟨hl0.1, hl0.2.1, fun q hq => hl0.2.2 q ?_⟩
    obtain ⟨j, w⟩ := q
    obtain ⟨v, hv, rfl⟩ := ev_mem.mp hq
    unfold ev_entry at hv
    by_cases hj : j < (ev_en as).length
    · rw [List.getElem?_append_left hj] at hv
      have := ev_entry_at ad ax as 0 j v hv
      simpa using this
    · rw [List.getElem?_append_right (by omega)] at hv
      have := (List.mem_replicate.mp (List.mem_of_getElem? hv)).2
      cases this
  · unfold ev_entry
    rw [List.length_append, List.length_replicate]; omega
theorem ev_keepL {ad ax : Nat → Nat} {lsB : Array Slot} {n k : Nat} {y : Value} (hk : ls[k]? = some none) (hw : ∀ j v, j + 1 = k → ls[j]? = some (some v) → ev_c2 v = false)
    (h : lv_has lsB n ((k, y) :: (ev_lsl (ev_tr ad ax) ls).filter (fun q => !(q.1 == k) && !(q.1 + 1 == k && q.2.category == 2)))) : lv_has lsB n (ev_lsl (ev_tr ad ax) ls) := by
  refine ⟨h.1, h.2.1, fun q hq => h.2.2 q (List.mem_cons_of_mem _ (List.mem_filter.mpr ⟨hq, ?_⟩))⟩
  obtain ⟨j, w⟩ := q
  obtain ⟨v, hv, rfl⟩ := ev_mem.mp hq
  have h1 : (j == k) = false := beq_eq_false_iff_ne.mpr (fun e => by subst e; rw [hk] at hv; cases hv)
  have h2 : (j + 1 == k && (ev_tr ad ax v).category == 2) = false := by
    by_cases e : j + 1 = k
    · rw [ev_c2_cat, hw j v e hv, Bool.and_eq_false_iff]; exact Or.inr rfl
    · rw [beq_eq_false_iff_ne.mpr e]; rfl
  show (!(j == k) && !(j + 1 == k && (ev_tr ad ax v).category == 2)) = true
  rw [h1, h2]; rfl
theorem as_self (vm : Vm) (c : ClassId) : vm.assignable c c = true := by
  unfold Vm.assignable Vm.assignableAux
  rw [beq_self_eq_true]; rfl
theorem castable_self {E : String} {s : State} {args : Array Value} {c : ClassId} (h : s.vm.findClass E = some c) : (Cond.castable E E).before args s = true := by
  simp [Cond.before, Cond.holds, Cond.value, h, as_self]
theorem ev_catch {E : String} {k : Nat} {pre suf : List (Nat × Nat × Nat × Nat)} {x : Nat × Nat × Nat × Nat} (hh : ev_h mi = pre ++ x :: suf)
    (hpass : ∀ z ∈ pre, ∃ nm, z.2.2.2 ≠ 0 ∧ Cond.classLink (ev_y mi).cls z.2.2.2 nm ∈ ev_bw ∧ (E, nm) ∈ ev_nc) (hx : covers ⟨x.1, x.2.1, x.2.2.1, x.2.2.2⟩ pc = true) (h0 : x.2.2.2 ≠ 0)
    (hlink : Cond.classLink (ev_y mi).cls x.2.2.2 E ∈ ev_bw) {len : Nat} (hd : (decode (ev_c mi) x.2.2.1 = .ok (.astore k, 2) ∧ len = 2) ∨ (∃ j : Fin 4, (j : Nat) = k ∧ decode (ev_c mi) x.2.2.1 = .ok (.astore_n j, 1) ∧ len = 1))
    (hk : ls[k]? = some none) (hw : ∀ j v, j + 1 = k → ls[j]? = some (some v) → ev_c2 v = false) (kk : ev_ l mi kc ks (x.2.2.1 + len) ls [] M Q) : ev_Th l mi kc ks pc ls E M Q := by
  intro st p e s m args below meth c D ad0 ad ax cA A H locs lsA L0 ce q9 hC hS hA hL ha hP hD hK hX hM hOL hl hn hce hcv hcl
  have hbw := hC.2.2.2.2.2.1
  have hT := hC.2.2.2.2.2.2.2.2.2
  have hkn : k < ev_n mi := by rw [← hn]; exact (List.getElem?_eq_some_iff.mp hk).1
  rw [hh] at hT
  refine vx_catch (own := (ev_y mi).cls) (name := E) (E := E) (ce := ce) hC.2.2.2.2.1 (tableOf pre) ⟨x.1, x.2.1, x.2.2.1, x.2.2.2⟩ (tableOf suf) (hT.trans (by simp [tableOf])) (fun z hz => ?_) hx h0 (hbw _ hlink) (castable_self hcl) hce hcv hcl ?_
  · obtain ⟨q, hq, rfl⟩ := List.mem_map.mp hz
    obtain ⟨nm, h1, h2, h3⟩ := hpass q hq
    exact Or.inr ⟨h1, nm, hbw _ h2, hX.2.2.2.2.2.2.2.2.2 _ h3⟩
  · rcases hd with ⟨hd, rfl⟩ | ⟨j, rfl, hd, rfl⟩
    · refine lv_astore hC.2.1 hC.2.2.1 hd hl hkn rfl (fun lsB hlB => ?_)
      exact kk p e s m args below meth c D ad0 ad ax cA A H locs lsB L0 hC hS hA hL ha hP hD hK hX hM (fun _ h => by cases h) hOL (ev_keepL hk hw hlB) hn
    · refine lv_astore_n hC.2.1 hC.2.2.1 hd rfl hl hkn rfl (fun lsB hlB => ?_)
      exact kk p e s m args below meth c D ad0 ad ax cA A H locs lsB L0 hC hS hA hL ha hP hD hK hX hM (fun _ h => by cases h) hOL (ev_keepL hk hw hlB) hn
/-- a call that answers or throws by a number -/
theorem ev_cVA {idx ci n o : Nat} {fs as : List Value} (hY : ev_YV mj ci n) (hw : Cond.methodLink (ev_y mi).cls idx (ev_y mj) ∈ ev_bw) (hd : decode (ev_c mi) pc = .ok (.invokevirtual idx, 3)) (hR : ev_Rm mi mj kc ks st) (hm : M[o]? = some (.inr (ci, fs))) (hlen : as.length = n) {stk : List Value} (hst : stk = as.reverse ++ .ref o :: st) {es : List String} {p : Nat × Int32} {B : ev_M → Prop} (hc : ev_Mt l mj (.ref o :: as) M (fun r M1 => r = cA es p ∧ B M1))
    (kk : ∀ M1, B M1 → p.1 = 0 → ev_ l mi (kc + ev_mc mj) (ks + ev_ms mj) (pc + 3) ls (.int p.2 :: st) M1 Q)
    (kx : ∀ M1 i, B M1 → p.1 = i + 1 → ev_Th l mi (kc + ev_mc mj) (ks + ev_ms mj) pc ls (es.getD i "") M1 Q) : ev_ l mi kc ks pc ls stk M Q := by
  subst hst
  obtain ⟨p1, p2⟩ := p
  refine ev_callV hY hw hd hR hm hlen hc (fun v' M' hle hq => ?_) (fun E M' hle hq => ?_)
  · obtain ⟨h1, h2⟩ := hq
    cases p1 with
    | zero => cases h1; exact kk M' h2 rfl
    | succ k => cases h1
  · obtain ⟨h1, h2⟩ := hq
    cases p1 with
    | zero => cases h1
    | succ k => cases h1; exact kx M' k h2 rfl
theorem ev_cVV {idx ci n o : Nat} {fs as : List Value} (hY : ev_YV mj ci n) (hw : Cond.methodLink (ev_y mi).cls idx (ev_y mj) ∈ ev_bw) (hd : decode (ev_c mi) pc = .ok (.invokevirtual idx, 3)) (hR : ev_Rm mi mj kc ks st) (hm : M[o]? = some (.inr (ci, fs))) (hlen : as.length = n) {stk : List Value} (hst : stk = as.reverse ++ .ref o :: st) {es : List String} {p : Nat} {B : ev_M → Prop} (hc : ev_Mt l mj (.ref o :: as) M (fun r M1 => r = cV es p ∧ B M1))
    (kk : ∀ M1, B M1 → p = 0 → ev_ l mi (kc + ev_mc mj) (ks + ev_ms mj) (pc + 3) ls st M1 Q)
    (kx : ∀ M1 i, B M1 → p = i + 1 → ev_Th l mi (kc + ev_mc mj) (ks + ev_ms mj) pc ls (es.getD i "") M1 Q) : ev_ l mi kc ks pc ls stk M Q := by
  subst hst
  refine ev_callV hY hw hd hR hm hlen hc (fun v' M' hle hq => ?_) (fun E M' hle hq => ?_)
  · obtain ⟨h1, h2⟩ := hq
    cases p with
    | zero => cases h1; exact kk M' h2 rfl
    | succ k => cases h1
  · obtain ⟨h1, h2⟩ := hq
    cases p with
    | zero => cases h1
    | succ k => cases h1; exact kx M' k h2 rfl
/-- a static call of a method with a table -/
def ev_YH (mj : ev_MI) (n : Nat) : Prop := (∃ a b, ev_h mj = a :: b) ∧ Cond.codeWith (ev_y mj) (ev_c mj) (ev_n mj) (ev_r mj) (ev_h mj) ∈ ev_bw ∧ Cond.static (ev_y mj) ∈ ev_bw ∧ Cond.initialized (ev_y mj).cls ∈ ev_bw ∧ ((ev_y mj).cls ≠ "java/lang/invoke/MethodHandle" ∧ (ev_y mj).cls ≠ "java/lang/invoke/VarHandle") ∧ (parseMethodDescriptor (ev_y mj).desc).map (fun d => d.parameters.length) = some n
theorem ev_callSH {idx n : Nat} {as : List Value} {Qc : ev_R → ev_M → Prop} (hY : ev_YH mj n) (hw : Cond.methodLink (ev_y mi).cls idx (ev_y mj) ∈ ev_bw) (hd : decode (ev_c mi) pc = .ok (.invokestatic idx, 3)) (hR : ev_Rm mi mj kc ks st) (hlen : as.length = n)
    (hc : ev_Mt l mj as M Qc)
    (kk : ∀ (v : Option Value) (M' : ev_M), M.length ≤ M'.length → Qc (.inl v) M' → ev_ l mi (kc + ev_mc mj) (ks + ev_ms mj) (pc + 3) ls (v.toList ++ st) M' Q)
    (kx : ∀ (E : String) (M' : ev_M), M.length ≤ M'.length → Qc (.inr E) M' → ev_Th l mi (kc + ev_mc mj) (ks + ev_ms mj) pc ls E M' Q) : ev_ l mi kc ks pc ls (as.reverse ++ st) M Q := by
  intro p e s m args below meth c D ad0 ad ax cA A H locs lsA L0 hC hS hA hL ha hP hD hK hX hM hO hOL hl hn
  have hO2 : ev_okS M.length st := fun w hw => hO w (List.mem_append_right _ hw)
  have hO3 : ev_okS M.length as := fun w hw => hO w (List.mem_append_left _ (List.mem_reverse.mpr hw))
  have hbw := hC.2.2.2.2.2.1
  obtain ⟨⟨y1, y2, y3⟩, y4, y5, y6, y7, y8⟩ := hY
  have hw9 : ev_w mj = Cond.codeWith (ev_y mj) (ev_c mj) (ev_n mj) (ev_r mj) (ev_h mj) := by unfold ev_w; rw [y3]
  have hall : ∀ w ∈ ev_ws mj, w ∈ ev_bw := by
    intro w hw1
    rcases List.mem_cons.mp hw1 with h | h
    · rw [h, hw9]; exact y4
    · exact h
  have hcw : vx_CSW (ev_rm mi) s args (ev_y mi).cls idx (ev_y mj) (ev_c mj) (ev_n mj) (ev_r mj) (ev_h mj) (ev_ws mj) (ev_rm mj) (ev_mc mj) (ev_ms mj) n :=
    ⟨⟨rfl, rfl, hR.1, hR.2.1, fun w hw1 a' U hW => word_at hW (good_of_word (ev_bw_good w (hall w hw1))) (hbw w (hall w hw1)), by rw [← hw9]; exact List.mem_cons_self⟩, hbw _ y4, hbw _ y6, y7, fun sig hsig => by rw [hsig] at y8; exact (Option.some.inj y8).symm, hbw _ hw, hbw _ y5⟩
  refine ev_after (mj := mj) (a := (as.map (ev_tr ad ax)).toArray) hC hS hA hL ha hP hD hK hX hM hO2 hOL hl hn (vx_runSX (As := as.map (ev_tr ad ax)) ⟨hC.2.1, hC.2.2.1, hC.2.2.2.1, hC.2.2.2.2.1, hbw⟩ (hc hM hO3 D ad ax cA H.size) hcw ⟨ev_blind, fun U hU hW => ev_pre hS hA hP hD hK hX hU hW⟩ rfl (by rw [List.length_map]; exact hlen) hl.1 (by simp [List.map_append, List.map_reverse]) (lv_room (by rw [ev_cat_sum]; exact hR.2.2.2.2)) hd ⟨hR.2.2.1, hR.2.2.2.1⟩) kk kx
theorem ev_cSHw {idx n : Nat} {as : List Value} (hY : ev_YH mj n) (hw : Cond.methodLink (ev_y mi).cls idx (ev_y mj) ∈ ev_bw) (hd : decode (ev_c mi) pc = .ok (.invokestatic idx, 3)) (hR : ev_Rm mi mj kc ks st) (hlen : as.length = n) {stk : List Value} (hst : stk = as.reverse ++ st) {v : Value} {B : ev_M → Prop} (hc : ev_Mt l mj as M (fun r M1 => r = .inl (some v) ∧ B M1)) (kk : ∀ M1, M.length ≤ M1.length → B M1 → ev_ l mi (kc + ev_mc mj) (ks + ev_ms mj) (pc + 3) ls (v :: st) M1 Q) : ev_ l mi kc ks pc ls stk M Q := by
  subst hst
  refine ev_callSH hY hw hd hR hlen hc (fun v' M' hle hq => ?_) (fun E M' _ hq => ?_)
  · obtain ⟨h1, h2⟩ := hq
    cases h1
    exact kk M' hle h2
  · cases hq.1
end

section EVC
variable {l : Launch} {mi mj : ev_MI} {kc ks pc : Nat} {ls : ev_L} {st : List Value} {M : ev_M} {Q : ev_R → ev_M → Prop}
theorem ev_lsl_to {n nL : Nat} {ad ad' ax : Nat → Nat} {ls : ev_L} {lsA : Array Slot} (h : ∀ k, k < n → ad' k = ad k) (ho : ev_okL n ls) (hl : lv_has lsA nL (ev_lsl (ev_tr ad ax) ls)) : lv_has lsA nL (ev_lsl (ev_tr ad' ax) ls) := by
  refine ⟨hl.1, hl.2.1, fun q hq => hl.2.2 q ?_⟩
  obtain ⟨j, w⟩ := q
  obtain ⟨v, hv, rfl⟩ := ev_mem.mp hq
  exact ev_mem.mpr ⟨v, hv, ev_tr_eq h (ho j v hv)⟩
theorem ev_st_to {n : Nat} {ad ad' ax : Nat → Nat} {st : List Value} (h : ∀ k, k < n → ad' k = ad k) (ho : ev_okS n st) : st.map (ev_tr ad' ax) = st.map (ev_tr ad ax) := List.map_congr_left fun v hv => ev_tr_eq h (ho v hv)
theorem ev_blind {D : va_G} {ad ax cA : Nat → Nat} {sz : Nat} {as : List Value} {M : ev_M} : FrameBlind (ev_Pc D ad ax cA sz as M) := fun a U g mk ⟨h1, h2, h3, h4, h5, h6⟩ =>
  ⟨h1, h2, h3, va_K.moved (u := U) (U := U.calling g mk a) (Vm.Alike.refl U.vm) h4, h5, ev_X.same (u := U) (U := U.calling g mk a) rfl h6⟩
/-- which cells are the caller's own -/
theorem ev_own {A : Nat → Prop} {ad ax cA : Nat → Nat} {M : ev_M} {H0 H : Heap} {locs : List Loc} (hS : va_S A H0 H locs) (hA : ∀ q, H0.size ≤ q → A q) (hD : va_D A (ev_wl ad ax cA M)) : ∀ q, va_A (ev_wl ad ax cA M) H.size q → A q := by
  intro q h
  rcases h with ⟨k, e, h⟩ | h
  · exact hD.2 k (q, e) h
  · exact hA q (Nat.le_trans hS.1 h)
theorem ev_pre {s : State} {D : va_G} {ad ax cA : Nat → Nat} {A : Nat → Prop} {H : Heap} {locs : List Loc} (hS : va_S A s.heap H locs) (hA : ∀ q, s.heap.size ≤ q → A q) (hP : va_P D vwCl (ev_wl ad ax cA M) H) (hD : va_D A (ev_wl ad ax cA M)) (hK : va_K D vwCl (ev_tys cA) s) (hX : ev_X ax A s s.heap) {as : List Value} {U : State} (hU : U.heap = H) (hW : s.WarmedH U.vm) : ev_Pc D ad ax cA H.size as M (as.map (ev_tr ad ax)).toArray U := by
  refine ⟨rfl, by rw [hU], by rw [hU]; exact hP, hK.moved hW.alike, ⟨hD.1, fun _ _ _ => trivial⟩, ?_⟩
  rw [hU]
  exact ev_X.narrow ((hX.moved hW).kept hS.2.1) (ev_own hS hA hD)

/-- where an exception arrives in a method -/
def ev_Th (l : Launch) (mi : ev_MI) (kc ks pc : Nat) (ls : ev_L) (E : String) (M : ev_M) (Q : ev_R → ev_M → Prop) : Prop :=
  ∀ (st : List Value) (p : Program) (e : Env) (s : State) (m : MethodId) (args : Array Value) (below : List Frame) (meth : Method) (c : Code) (D : va_G) (ad0 ad ax cA : Nat → Nat) (A : Nat → Prop) (H : Heap) (locs : List Loc) (lsA : Array Slot) (L0 : Nat) (ce : Cell) (q9 : Addr),
    ev_Cx l mi p s m args meth c → va_S A s.heap H locs → (∀ q, s.heap.size ≤ q → A q) → L0 ≤ M.length → (∀ k, k < L0 → ad k = ad0 k) →
    va_P D vwCl (ev_wl ad ax cA M) H → va_D A (ev_wl ad ax cA M) → va_K D vwCl (ev_tys cA) s → ev_X ax A s s.heap → ev_okM M → ev_okL M.length ls →
    lv_has lsA (ev_n mi) (ev_lsl (ev_tr ad ax) ls) → ls.length = ev_n mi → H[q9]? = some ce → ce.vm = .none → s.vm.findClass E = some ce.cls →
    vx_W p l e (ev_rm mi) s m args below meth c H locs kc ks (vx_MQ below (ev_Qc D ad0 ax cA A L0 Q) (ev_XC D ad0 ax cA A L0 Q) args s (ev_mc mi) (ev_ms mi) A) (F0 m pc lsA (st.map (ev_tr ad ax))) q9
theorem ev_Th_out {E : String} (hh : ev_h mi = []) (hc : kc ≤ ev_mc mi ∧ ks ≤ ev_ms mi) (hq : Q (.inr E) M) : ev_Th l mi kc ks pc ls E M Q := by
  intro st p e s m args below meth c D ad0 ad ax cA A H locs lsA L0 ce q9 hC hS hA hL ha hP hD hK hX hM hOL hl hn hce hcv hcl
  refine vx_out (ce := ce) (E := E) (fun x hx => ?_) hC.2.2.2.2.2.2.1 hce hcv hcl (fun t ht hal => ⟨⟨.inr E, M, ad, hL, ha, rfl, hq, hM, fun v h => (nomatch h), by rw [ht]; exact hP, hD⟩, hS.F ht⟩) hS.2.2 hc.1 hc.2
  have h9 := hC.2.2.2.2.2.2.2.2.2
  rw [hh] at h9
  rw [h9] at hx
  exact absurd hx List.not_mem_nil
theorem ev_after {p : Program} {e : Env} {s : State} {m : MethodId} {args : Array Value} {below : List Frame} {meth : Method} {c : Code} {D : va_G} {ad0 ad ax cA : Nat → Nat} {A : Nat → Prop} {H : Heap} {locs : List Loc} {lsA : Array Slot} {L0 : Nat} (hC : ev_Cx l mi p s m args meth c) (hS : va_S A s.heap H locs) (hA : ∀ q, s.heap.size ≤ q → A q) (hL : L0 ≤ M.length) (ha : ∀ k, k < L0 → ad k = ad0 k) (hP : va_P D vwCl (ev_wl ad ax cA M) H) (hD : va_D A (ev_wl ad ax cA M)) (hK : va_K D vwCl (ev_tys cA) s) (hX : ev_X ax A s s.heap) (hM : ev_okM M) (hO : ev_okS M.length st) (hOL : ev_okL M.length ls) (hl : lv_has lsA (ev_n mi) (ev_lsl (ev_tr ad ax) ls)) (hn : ls.length = ev_n mi) {Qc : ev_R → ev_M → Prop} {a : Array Value} {stk : List Value}
    (hr : vx_Run p l e (ev_rm mi) s m args below meth c H locs kc ks (ev_mc mj) (ev_ms mj) (F0 m pc lsA stk) (st.map (ev_tr ad ax)) (ev_Qc D ad ax cA (va_A (ev_wl ad ax cA M) H.size) M.length Qc a) (ev_XC D ad ax cA (va_A (ev_wl ad ax cA M) H.size) M.length Qc) (va_A (ev_wl ad ax cA M) H.size))
    (kk : ∀ (v : Option Value) (M' : ev_M), M.length ≤ M'.length → Qc (.inl v) M' → ev_ l mi (kc + ev_mc mj) (ks + ev_ms mj) (pc + 3) ls (v.toList ++ st) M' Q)
    (kx : ∀ (E : String) (M' : ev_M), M.length ≤ M'.length → Qc (.inr E) M' → ev_Th l mi (kc + ev_mc mj) (ks + ev_ms mj) pc ls E M' Q) :
    W p l e (ev_rm mi) s m args below meth c H locs kc ks (vx_MQ below (ev_Qc D ad0 ax cA A L0 Q) (ev_XC D ad0 ax cA A L0 Q) args s (ev_mc mi) (ev_ms mi) A) (F0 m pc lsA stk) := by
  intro T hT X
  have hown := ev_own hS hA hD
  rcases hr T hT X with ⟨v, st₀, t, T', L, h0, X', hLL, e1, e2, ⟨⟨r, M', ad', hL', ha', ⟨v', hr', hv'⟩, hQ, hM', hok, hP1, hD1⟩, hF⟩, go⟩ | ⟨q, st₀, t, T', L, E, ce, h0, X', hLL, e1, e2, ⟨⟨r, M', ad', hL', ha', hr', hQ, hM', hok, hP1, hD1⟩, hF⟩, hce, hcv, hcl, go⟩
  · subst hr'
    cases hv'
    obtain ⟨k1, k2, k3⟩ := vx_keep h0 e1 hS (fun q _ h => hown q h) hown hLL hF
    rw [← e1] at hP1
    have hD2 := hD1.weaken (fun k q _ h => hown q.1 h)
    have hkk := kk v' M' hL' hQ p e s m args below meth c D ad0 ad' ax cA A T'.heap (locs ++ L) lsA L0 hC k3 hA (Nat.le_trans hL hL') (fun k hk => (ha' k (Nat.lt_of_lt_of_le hk hL)).trans (ha k hk)) hP1 hD2 hK hX hM'
      (by
        intro w hw
        rcases List.mem_append.mp hw with h | h
        · cases v' with
          | none => cases h
          | some z => rw [List.mem_singleton.mp h]; exact hok z rfl
        · exact ev_ok_le hL' (hO w h)) (ev_okL_le hL' hOL) (ev_lsl_to ha' hOL hl) hn
    have e3 : (v'.toList ++ st).map (ev_tr ad' ax) = (v'.map (ev_tr ad' ax)).toList ++ st.map (ev_tr ad ax) := by
      rw [List.map_append, ev_st_to ha' hO]
      cases v' <;> rfl
    rw [e3] at hkk
    obtain ⟨t2, a1, b1⟩ := hkk T' rfl X'
    exact ⟨t2, go t2 a1, b1⟩
  · subst hr'
    obtain ⟨k1, k2, k3⟩ := vx_keep h0 e1 hS (fun q _ h => hown q h) hown hLL hF
    rw [← e1] at hP1
    have hD2 := hD1.weaken (fun k q _ h => hown q.1 h)
    have hkx := kx E M' hL' hQ st p e s m args below meth c D ad0 ad' ax cA A T'.heap (locs ++ L) lsA L0 ce q hC k3 hA (Nat.le_trans hL hL') (fun k hk => (ha' k (Nat.lt_of_lt_of_le hk hL)).trans (ha k hk)) hP1 hD2 hK hX hM' (ev_okL_le hL' hOL) (ev_lsl_to ha' hOL hl) hn (by rw [e1]; exact hce) hcv hcl
    rw [ev_st_to ha' hO] at hkx
    obtain ⟨t2, a1, b1⟩ := hkx T' rfl X'
    exact ⟨t2, go.trans a1, b1⟩

/-- what the tables say of a method that is called: by a receiver of class ci, statically, as a constructor -/
def ev_Yc (mj : ev_MI) (n : Nat) : Prop := Cond.initialized (ev_y mj).cls ∈ ev_bw ∧ ev_h mj = [] ∧ Cond.code (ev_y mj) (ev_c mj) (ev_n mj) (ev_r mj) ∈ ev_bw ∧ ((ev_y mj).cls ≠ "java/lang/invoke/MethodHandle" ∧ (ev_y mj).cls ≠ "java/lang/invoke/VarHandle") ∧ (parseMethodDescriptor (ev_y mj).desc).map (fun d => d.parameters.length) = some n
def ev_YV (mj : ev_MI) (ci n : Nat) : Prop := ev_Yc mj n ∧ Cond.instanceMethod (ev_y mj) ∈ ev_bw ∧ Cond.selects (ev_y mj).cls (ev_y mj) (ev_y mj) ∈ ev_bw ∧ (vwCl[ci]?).map (fun q => q.1) = some (ev_y mj).cls
def ev_YS (mj : ev_MI) (n : Nat) : Prop := ev_Yc mj n ∧ Cond.static (ev_y mj) ∈ ev_bw
def ev_YI (mj : ev_MI) (n : Nat) : Prop := ev_Yc mj n ∧ Cond.instanceMethod (ev_y mj) ∈ ev_bw ∧ (ev_y mj).name = "<init>" ∧ ev_r mj = none
/-- the callee's room lies in the caller's -/
def ev_Rm (mi mj : ev_MI) (kc ks : Nat) (st : List Value) : Prop := ev_fr mj + 1 ≤ ev_fr mi ∧ 8 + (ev_n mj + 11) + ev_lo mj ≤ ev_lo mi ∧ kc + ev_mc mj ≤ ev_mc mi ∧ ks + ev_ms mj ≤ ev_ms mi ∧ (st.map (fun v => bif ev_c2 v then 2 else 1)).sum ≤ 8
theorem ev_cat_sum {ad ax : Nat → Nat} {st : List Value} : ((st.map (ev_tr ad ax)).map (fun v => v.category)).sum = (st.map (fun v => bif ev_c2 v then 2 else 1)).sum := by
  rw [List.map_map]
  congr 1
  refine List.map_congr_left fun v _ => ?_
  show (ev_tr ad ax v).category = _
  rw [ev_c2_cat]
  cases ev_c2 v <;> rfl
theorem ev_callB {p : Program} {s : State} {m : MethodId} {args : Array Value} {meth : Method} {c : Code} {idx n : Nat} (hC : ev_Cx l mi p s m args meth c) (hY : ev_Yc mj n) (hw : Cond.methodLink (ev_y mi).cls idx (ev_y mj) ∈ ev_bw) (hR : ev_Rm mi mj kc ks st) : CallB (ev_rm mi) s args (ev_y mi).cls idx (ev_y mj) (ev_c mj) (ev_n mj) (ev_r mj) (ev_ws mj) (ev_rm mj) (ev_mc mj) (ev_ms mj) n := by
  obtain ⟨h1, h2, h3, h4, h5⟩ := hY
  have hbw := hC.2.2.2.2.2.1
  have hw9 : ev_w mj = Cond.code (ev_y mj) (ev_c mj) (ev_n mj) (ev_r mj) := by unfold ev_w; rw [h2]
  have hall : ∀ w ∈ ev_ws mj, w ∈ ev_bw := by
    intro w hw1
    rcases List.mem_cons.mp hw1 with h | h
    · rw [h, hw9]; exact h3
    · exact h
  exact ⟨rfl, rfl, hR.1, hR.2.1, fun w hw1 a' U hW => word_at hW (good_of_word (ev_bw_good w (hall w hw1))) (hbw w (hall w hw1)), by rw [← hw9]; exact List.mem_cons_self, hbw _ h3, hbw _ h1, h4, fun sig hsig => by rw [hsig] at h5; exact (Option.some.inj h5).symm, hbw _ hw⟩
theorem ev_callV {idx ci n o : Nat} {fs as : List Value} {Qc : ev_R → ev_M → Prop} (hY : ev_YV mj ci n) (hw : Cond.methodLink (ev_y mi).cls idx (ev_y mj) ∈ ev_bw) (hd : decode (ev_c mi) pc = .ok (.invokevirtual idx, 3)) (hR : ev_Rm mi mj kc ks st) (hm : M[o]? = some (.inr (ci, fs))) (hlen : as.length = n)
    (hc : ev_Mt l mj (.ref o :: as) M Qc)
    (kk : ∀ (v : Option Value) (M' : ev_M), M.length ≤ M'.length → Qc (.inl v) M' → ev_ l mi (kc + ev_mc mj) (ks + ev_ms mj) (pc + 3) ls (v.toList ++ st) M' Q)
    (kx : ∀ (E : String) (M' : ev_M), M.length ≤ M'.length → Qc (.inr E) M' → ev_Th l mi (kc + ev_mc mj) (ks + ev_ms mj) pc ls E M' Q) : ev_ l mi kc ks pc ls (as.reverse ++ .ref o :: st) M Q := by
  intro p e s m args below meth c D ad0 ad ax cA A H locs lsA L0 hC hS hA hL ha hP hD hK hX hM hO hOL hl hn
  have hO2 : ev_okS M.length (.ref o :: st) := fun w hw => hO w (List.mem_append_right _ hw)
  have hO3 : ev_okS M.length (.ref o :: as) := fun w hw => by
    rcases List.mem_cons.mp hw with h | h
    · exact hO w (List.mem_append_right _ (h ▸ List.mem_cons_self))
    · exact hO w (List.mem_append_left _ (List.mem_reverse.mpr h))
  obtain ⟨q, hq, hqc⟩ : ∃ q : vw_C, vwCl[ci]? = some q ∧ q.1 = (ev_y mj).cls := by
    have := hY.2.2.2
    cases hv : vwCl[ci]? with
    | none => rw [hv] at this; cases this
    | some q => rw [hv] at this; exact ⟨q, rfl, Option.some.inj this⟩
  have hrecv := va_recv hK hP hq (ev_wl_get hm)
  rw [hqc] at hrecv
  have hbw := hC.2.2.2.2.2.1
  refine ev_after (mj := mj) (a := ((Value.ref o :: as).map (ev_tr ad ax)).toArray) hC hS hA hL ha hP hD hK hX hM (ev_okS_t hO2) hOL hl hn (vx_runV (As := as.map (ev_tr ad ax)) ⟨hC.2.1, hC.2.2.1, hC.2.2.2.1, hC.2.2.2.2.1, hbw⟩ (hc hM hO3 D ad ax cA H.size) ⟨ev_callB hC hY.1 hw hR, hbw _ hY.2.1, hbw _ hY.2.2.1⟩ ⟨ev_blind, hrecv, fun U hU hW => ev_pre hS hA hP hD hK hX hU hW⟩ rfl (by rw [List.length_map]; exact hlen) hl.1 (by simp [List.map_append, List.map_reverse, ev_tr]) (lv_room (by rw [ev_cat_sum]; exact hR.2.2.2.2)) hd ⟨hR.2.2.1, hR.2.2.2.1⟩) kk kx
theorem ev_callS {idx n : Nat} {as : List Value} {Qc : ev_R → ev_M → Prop} (hY : ev_YS mj n) (hw : Cond.methodLink (ev_y mi).cls idx (ev_y mj) ∈ ev_bw) (hd : decode (ev_c mi) pc = .ok (.invokestatic idx, 3)) (hR : ev_Rm mi mj kc ks st) (hlen : as.length = n)
    (hc : ev_Mt l mj as M Qc)
    (kk : ∀ (v : Option Value) (M' : ev_M), M.length ≤ M'.length → Qc (.inl v) M' → ev_ l mi (kc + ev_mc mj) (ks + ev_ms mj) (pc + 3) ls (v.toList ++ st) M' Q)
    (kx : ∀ (E : String) (M' : ev_M), M.length ≤ M'.length → Qc (.inr E) M' → ev_Th l mi (kc + ev_mc mj) (ks + ev_ms mj) pc ls E M' Q) : ev_ l mi kc ks pc ls (as.reverse ++ st) M Q := by
  intro p e s m args below meth c D ad0 ad ax cA A H locs lsA L0 hC hS hA hL ha hP hD hK hX hM hO hOL hl hn
  have hO2 : ev_okS M.length st := fun w hw => hO w (List.mem_append_right _ hw)
  have hO3 : ev_okS M.length as := fun w hw => hO w (List.mem_append_left _ (List.mem_reverse.mpr hw))
  have hbw := hC.2.2.2.2.2.1
  refine ev_after (mj := mj) (a := (as.map (ev_tr ad ax)).toArray) hC hS hA hL ha hP hD hK hX hM hO2 hOL hl hn (vx_runS (As := as.map (ev_tr ad ax)) ⟨hC.2.1, hC.2.2.1, hC.2.2.2.1, hC.2.2.2.2.1, hbw⟩ (hc hM hO3 D ad ax cA H.size) ⟨ev_callB hC hY.1 hw hR, hbw _ hY.2⟩ ⟨ev_blind, fun U hU hW => ev_pre hS hA hP hD hK hX hU hW⟩ rfl (by rw [List.length_map]; exact hlen) hl.1 (by simp [List.map_append, List.map_reverse]) (lv_room (by rw [ev_cat_sum]; exact hR.2.2.2.2)) hd ⟨hR.2.2.1, hR.2.2.2.1⟩) kk kx
theorem ev_callI {idx n o : Nat} {as : List Value} {Qc : ev_R → ev_M → Prop} (hY : ev_YI mj n) (hw : Cond.methodLink (ev_y mi).cls idx (ev_y mj) ∈ ev_bw) (hd : decode (ev_c mi) pc = .ok (.invokespecial idx, 3)) (hR : ev_Rm mi mj kc ks st) (hlen : as.length = n)
    (hc : ev_Mt l mj (.ref o :: as) M Qc)
    (kk : ∀ (v : Option Value) (M' : ev_M), M.length ≤ M'.length → Qc (.inl v) M' → ev_ l mi (kc + ev_mc mj) (ks + ev_ms mj) (pc + 3) ls (v.toList ++ st) M' Q)
    (kx : ∀ (E : String) (M' : ev_M), M.length ≤ M'.length → Qc (.inr E) M' → ev_Th l mi (kc + ev_mc mj) (ks + ev_ms mj) pc ls E M' Q) : ev_ l mi kc ks pc ls (as.reverse ++ .ref o :: st) M Q := by
  intro p e s m args below meth c D ad0 ad ax cA A H locs lsA L0 hC hS hA hL ha hP hD hK hX hM hO hOL hl hn
  have hO2 : ev_okS M.length (.ref o :: st) := fun w hw => hO w (List.mem_append_right _ hw)
  have hO3 : ev_okS M.length (.ref o :: as) := fun w hw => by
    rcases List.mem_cons.mp hw with h | h
    · exact hO w (List.mem_append_right _ (h ▸ List.mem_cons_self))
    · exact hO w (List.mem_append_left _ (List.mem_reverse.mpr h))
  have hbw := hC.2.2.2.2.2.1
  have hB := ev_callB (kc := kc) (ks := ks) (st := st) hC hY.1 hw hR
  rw [hY.2.2.2] at hB
  refine ev_after (mj := mj) (a := ((Value.ref o :: as).map (ev_tr ad ax)).toArray) hC hS hA hL ha hP hD hK hX hM (ev_okS_t hO2) hOL hl hn (vx_runI (b := ad o) (As := as.map (ev_tr ad ax)) ⟨hC.2.1, hC.2.2.1, hC.2.2.2.1, hC.2.2.2.2.1, hbw⟩ (hc hM hO3 D ad ax cA H.size) ⟨hB, hY.2.2.1, hbw _ hY.2.1⟩ ⟨ev_blind, fun U hU hW => ev_pre hS hA hP hD hK hX hU hW⟩ rfl (by rw [List.length_map]; exact hlen) hl.1 (by simp [List.map_append, List.map_reverse, ev_tr]) (lv_room (by rw [ev_cat_sum]; exact hR.2.2.2.2)) hd ⟨hR.2.2.1, hR.2.2.2.1⟩) kk kx
theorem ev_objInit {idx o : Nat} (hw : Cond.methodLink (ev_y mi).cls idx Lib.objectInit ∈ ev_bw) (h2 : Cond.instanceMethod Lib.objectInit ∈ ev_bw) (h3 : Cond.code Lib.objectInit ⟨#[0xb1]⟩ 1 none ∈ ev_bw) (hd : decode (ev_c mi) pc = .ok (.invokespecial idx, 3)) (hR : 1 ≤ ev_fr mi ∧ (st.map (fun v => bif ev_c2 v then 2 else 1)).sum + 12 ≤ ev_lo mi) (kk : ev_ l mi kc ks (pc + 3) ls st M Q) : ev_ l mi kc ks pc ls (.ref o :: st) M Q := by
  intro p e s m args below meth c D ad0 ad ax cA A H locs lsA L0 hC hS hA hL ha hP hD hK hX hM hO hOL hl hn
  have hbw := hC.2.2.2.2.2.1
  refine W.objInit hC.2.1 hC.2.2.1 hC.2.2.2.2.1 (hbw _ hw) (hbw _ h2) (hbw _ h3) rfl (by rw [hC.2.2.2.1]; exact hl.1) (rest := st.map (ev_tr ad ax)) rfl hd hR.1 ?_ (kk p e s m args below meth c D ad0 ad ax cA A H locs lsA L0 hC hS hA hL ha hP hD hK hX hM (ev_okS_t hO) hOL hl hn)
  show 2 * 0 + _ + 12 ≤ _
  rw [ev_cat_sum]
  have := hR.2
  show 2 * 0 + (st.map (fun v => bif ev_c2 v then 2 else 1)).sum + 12 ≤ ev_lo mi
  omega

theorem ev_def_tr (ad ax : Nat → Nat) (ty : FieldType) : ev_tr ad ax (defaultValue ty) = defaultValue ty := by cases ty <;> rfl
theorem ev_def_ok (n : Nat) (ty : FieldType) : ev_ok n (defaultValue ty) := by cases ty <;> exact trivial
/-- a new cell takes the next number -/
theorem ev_grow {p : Program} {e : Env} {s : State} {m : MethodId} {args : Array Value} {below : List Frame} {meth : Method} {c : Code} {D : va_G} {ad0 ad ax cA : Nat → Nat} {A : Nat → Prop} {H : Heap} {locs : List Loc} {lsA : Array Slot} {L0 : Nat} (hC : ev_Cx l mi p s m args meth c) (hS : va_S A s.heap H locs) (hA : ∀ q, s.heap.size ≤ q → A q) (hL : L0 ≤ M.length) (ha : ∀ k, k < L0 → ad k = ad0 k) (hP : va_P D vwCl (ev_wl ad ax cA M) H) (hD : va_D A (ev_wl ad ax cA M)) (hK : va_K D vwCl (ev_tys cA) s) (hX : ev_X ax A s s.heap) (hM : ev_okM M) (hO : ev_okS M.length st) (hOL : ev_okL M.length ls) (hl : lv_has lsA (ev_n mi) (ev_lsl (ev_tr ad ax) ls)) (hn : ls.length = ev_n mi) {q : Nat} {H1 : Heap} {e9 : va_E} (hok : ev_okE M.length e9) (hP1 : va_P D vwCl (ev_wl ad ax cA M ++ [(q, ev_tE ad ax cA e9)]) H1) (hD1 : va_D A (ev_wl ad ax cA M ++ [(q, ev_tE ad ax cA e9)])) (hS1 : va_S A s.heap H1 locs) {kc1 ks1 pc1 : Nat}
    (kk : ev_ l mi kc1 ks1 pc1 ls (.ref M.length :: st) (M ++ [e9]) Q) : W p l e (ev_rm mi) s m args below meth c H1 locs kc1 ks1 (vx_MQ below (ev_Qc D ad0 ax cA A L0 Q) (ev_XC D ad0 ax cA A L0 Q) args s (ev_mc mi) (ev_ms mi) A) (F0 m pc1 lsA (.ref q :: st.map (ev_tr ad ax))) := by
  obtain ⟨ad', had⟩ : ∃ z : Nat → Nat, z = fun k => if k = M.length then q else ad k := ⟨_, rfl⟩
  have hlt : ∀ k, k < M.length → ad' k = ad k := fun k hk => by rw [had]; exact if_neg (Nat.ne_of_lt hk)
  have hq : ad' M.length = q := by rw [had]; exact if_pos rfl
  have hw : ev_wl ad' ax cA (M ++ [e9]) = ev_wl ad ax cA M ++ [(q, ev_tE ad ax cA e9)] := by
    rw [ev_wl_app, ev_wl_eq hlt hM, hq, ev_tE_eq hlt hok]
  have hlen : (M ++ [e9]).length = M.length + 1 := by simp
  have hle : M.length ≤ (M ++ [e9]).length := by rw [hlen]; exact Nat.le_succ _
  have h9 := kk p e s m args below meth c D ad0 ad' ax cA A H1 locs lsA L0 hC hS1 hA (Nat.le_trans hL hle) (fun k hk => (hlt k (Nat.lt_of_lt_of_le hk hL)).trans (ha k hk)) (by rw [hw]; exact hP1) (by rw [hw]; exact hD1) hK hX (ev_okM_app hM (ev_okE_le (Nat.le_succ _) hok)) (ev_okS_c.mpr ⟨by show M.length < _; rw [hlen]; exact Nat.lt_succ_self _, ev_okS_le hle hO⟩) (ev_okL_le hle hOL) (ev_lsl_to hlt hOL hl) hn
  have e3 : (Value.ref M.length :: st).map (ev_tr ad' ax) = .ref q :: st.map (ev_tr ad ax) := by
    rw [List.map_cons, ev_st_to hlt hO]
    show Value.ref (ad' M.length) :: _ = _
    rw [hq]
  rw [e3] at h9
  exact h9
theorem ev_new {idx ci : Nat} {q0 : vw_C} {fs : List Value} (hc : vwCl[ci]? = some q0) (hw1 : Cond.classLink (ev_y mi).cls idx q0.1 ∈ ev_bw) (hw2 : Cond.instantiable q0.1 q0.2.2 ∈ ev_bw) (hw3 : Cond.initialized q0.1 ∈ ev_bw) (hfs : (List.range q0.2.2).map (fun k => defaultValue (ev_ty ci k)) = fs) (hd : decode (ev_c mi) pc = .ok (.new idx, 3)) (hR : kc + 1 ≤ ev_mc mi ∧ ks + q0.2.2 ≤ ev_ms mi)
    (kk : ev_ l mi (kc + 1) (ks + q0.2.2) (pc + 3) ls (.ref M.length :: st) (M ++ [.inr (ci, fs)]) Q) : ev_ l mi kc ks pc ls st M Q := by
  intro p e s m args below meth c D ad0 ad ax cA A H locs lsA L0 hC hS hA hL ha hP hD hK hX hM hO hOL hl hn
  have hbw := hC.2.2.2.2.2.1
  obtain ⟨C, T, N⟩ := q0
  have htr : fs.map (ev_tr ad ax) = fs := by
    rw [← hfs, List.map_map]
    exact List.map_congr_left fun k _ => ev_def_tr ad ax _
  have hok : ev_okE M.length (.inr (ci, fs)) := by
    intro v hv
    rw [← hfs] at hv
    obtain ⟨k, -, rfl⟩ := List.mem_map.mp hv
    exact ev_def_ok _ _
  refine va_new (ci := ci) (fs := fs) hC.2.1 hC.2.2.1 hbw (ev_cls hc) (ev_ty ci) (ev_tyn hc).1 hC.2.2.2.2.1 (hbw _ hw1) (hbw _ hw2) (hbw _ hw3) hK hP hD hS hA hc (fun j hj => ?_) hR.1 hR.2 hd (fun q H1 hP1 hD1 hS1 => ?_)
  · have hj : j < N := hj
    rw [← hfs]
    show _ = (List.map (fun k => defaultValue (ev_ty ci k)) (List.range N)).getD j .null
    simp [List.getD, List.getElem?_map, List.getElem?_range hj]
  · have e9 : ev_tE ad ax cA (.inr (ci, fs)) = .inr (ci, fs) := by show (Sum.inr (ci, fs.map (ev_tr ad ax)) : va_E) = _; rw [htr]
    exact ev_grow hC hS hA hL ha hP hD hK hX hM hO hOL hl hn hok (by rw [e9]; exact hP1) (by rw [e9]; exact hD1) hS1 kk
theorem ev_tag {s : State} {cA : Nat → Nat} {D : va_G} {t : Nat} {ty : FieldType} (hK : va_K D vwCl (ev_tys cA) s) (ht : (ev_tys cA)[t]? = some (cA t, ty)) {c9 : ClassId} (hK2 : va_K D vwCl (ev_tys cA ++ [(c9, ty)]) s) : c9 = cA t := by
  have h1 := (hK.2 t _ ht).2
  have h2 := (hK2.2 4 (c9, ty) rfl).2
  cases ty with
  | object C =>
    obtain ⟨_, _, _, _, _, e1⟩ := h1
    obtain ⟨_, _, _, _, _, e2⟩ := h2
    exact Option.some.inj (e2.symm.trans e1)
  | _ => exact Option.some.inj ((show s.vm.findClass _ = some c9 from h2).symm.trans h1)

theorem ev_newaI {n : Int32} {N : Nat} (hw : Cond.arrayClass .int ∈ ev_bw) (hn0 : ¬ n < 0) (hN : n.toNatClampNeg = N) (hb : N * 8 ≤ 536870912) (hd : decode (ev_c mi) pc = .ok (.newarray .int, 2)) (hR : kc + 1 ≤ ev_mc mi ∧ ks + N ≤ ev_ms mi) (kk : ev_ l mi (kc + 1) (ks + N) (pc + 2) ls (.ref M.length :: st) (M ++ [.inl (0, N, .inl (fun _ => 0))]) Q) : ev_ l mi kc ks pc ls (.int n :: st) M Q := by
  intro p e s m args below meth c D ad0 ad ax cA A H locs lsA L0 hC hS hA hL ha hP hD hK hX hM hO hOL hl hn
  have hbw := hC.2.2.2.2.2.1
  refine va_newa (atype := .int) (ty := .int) (a0 := (N, .inl (fun _ => 0))) hC.2.1 hC.2.2.1 (hbw _ hw) rfl hK hP hD hS hA (fun _ => rfl) hn0 hN ?_ hR.1 hR.2 hd (fun q c9 H1 hK1 hP1 hD1 hS1 => ?_)
  · have : componentBytes .int ≤ 8 := by decide
    exact Nat.le_trans (Nat.mul_le_mul_left N this) hb
  · have h9 := ev_tag (t := 0) hK rfl hK1
    subst h9
    exact ev_grow hC hS hA hL ha hP hD hK hX hM (ev_okS_t hO) hOL hl hn (e9 := .inl (0, N, .inl (fun _ => 0))) trivial hP1 hD1 hS1 kk
theorem ev_newaL {n : Int32} {N : Nat} (hw : Cond.arrayClass .long ∈ ev_bw) (hn0 : ¬ n < 0) (hN : n.toNatClampNeg = N) (hb : N * 8 ≤ 536870912) (hd : decode (ev_c mi) pc = .ok (.newarray .long, 2)) (hR : kc + 1 ≤ ev_mc mi ∧ ks + N ≤ ev_ms mi) (kk : ev_ l mi (kc + 1) (ks + N) (pc + 2) ls (.ref M.length :: st) (M ++ [.inl (1, N, .inr (.inl (fun _ => 0)))]) Q) : ev_ l mi kc ks pc ls (.int n :: st) M Q := by
  intro p e s m args below meth c D ad0 ad ax cA A H locs lsA L0 hC hS hA hL ha hP hD hK hX hM hO hOL hl hn
  have hbw := hC.2.2.2.2.2.1
  refine va_newa (atype := .long) (ty := .long) (a0 := (N, .inr (.inl (fun _ => 0)))) hC.2.1 hC.2.2.1 (hbw _ hw) rfl hK hP hD hS hA (fun _ => rfl) hn0 hN ?_ hR.1 hR.2 hd (fun q c9 H1 hK1 hP1 hD1 hS1 => ?_)
  · have : componentBytes .long ≤ 8 := by decide
    exact Nat.le_trans (Nat.mul_le_mul_left N this) hb
  · have h9 := ev_tag (t := 1) hK rfl hK1
    subst h9
    exact ev_grow hC hS hA hL ha hP hD hK hX hM (ev_okS_t hO) hOL hl hn (e9 := .inl (1, N, .inr (.inl (fun _ => 0)))) trivial hP1 hD1 hS1 kk
theorem ev_newaC {n : Int32} {N : Nat} (hw : Cond.arrayClass .char ∈ ev_bw) (hn0 : ¬ n < 0) (hN : n.toNatClampNeg = N) (hb : N * 8 ≤ 536870912) (hd : decode (ev_c mi) pc = .ok (.newarray .char, 2)) (hR : kc + 1 ≤ ev_mc mi ∧ ks + N ≤ ev_ms mi) (kk : ev_ l mi (kc + 1) (ks + N) (pc + 2) ls (.ref M.length :: st) (M ++ [.inl (2, N, .inl (fun _ => 0))]) Q) : ev_ l mi kc ks pc ls (.int n :: st) M Q := by
  intro p e s m args below meth c D ad0 ad ax cA A H locs lsA L0 hC hS hA hL ha hP hD hK hX hM hO hOL hl hn
  have hbw := hC.2.2.2.2.2.1
  refine va_newa (atype := .char) (ty := .char) (a0 := (N, .inl (fun _ => 0))) hC.2.1 hC.2.2.1 (hbw _ hw) rfl hK hP hD hS hA (fun _ => rfl) hn0 hN ?_ hR.1 hR.2 hd (fun q c9 H1 hK1 hP1 hD1 hS1 => ?_)
  · have : componentBytes .char ≤ 8 := by decide
    exact Nat.le_trans (Nat.mul_le_mul_left N this) hb
  · have h9 := ev_tag (t := 2) hK rfl hK1
    subst h9
    exact ev_grow hC hS hA hL ha hP hD hK hX hM (ev_okS_t hO) hOL hl hn (e9 := .inl (2, N, .inl (fun _ => 0))) trivial hP1 hD1 hS1 kk
theorem ev_newq {idx : Nat} {n : Int32} {N : Nat} (hw : Cond.classLink (ev_y mi).cls idx "LossyChannels$Configs" ∈ ev_bw) (hn0 : ¬ n < 0) (hN : n.toNatClampNeg = N) (hb : N * 4 ≤ 536870912) (hd : decode (ev_c mi) pc = .ok (.anewarray idx, 3)) (hR : kc + 1 ≤ ev_mc mi ∧ ks + N ≤ ev_ms mi) (kk : ev_ l mi (kc + 1) (ks + N) (pc + 3) ls (.ref M.length :: st) (M ++ [.inl (3, N, .inr (.inr (.inr (.inr (fun _ => none)))))]) Q) : ev_ l mi kc ks pc ls (.int n :: st) M Q := by
  intro p e s m args below meth c D ad0 ad ax cA A H locs lsA L0 hC hS hA hL ha hP hD hK hX hM hO hOL hl hn
  have hbw := hC.2.2.2.2.2.1
  have hao := hX.2.2.2.2.2.2.1
  refine va_newq hC.2.1 hC.2.2.1 hC.2.2.2.2.1 (hbw _ hw) hao hK hP hD hS hA hn0 hN hb hR.1 hR.2 hd (fun q c9 H1 hK1 hP1 hD1 hS1 => ?_)
  have h9 := ev_tag (t := 3) hK rfl hK1
  subst h9
  exact ev_grow hC hS hA hL ha hP hD hK hX hM (ev_okS_t hO) hOL hl hn (e9 := .inl (3, N, .inr (.inr (.inr (.inr (fun _ => none)))))) (fun i k h => by cases h) hP1 hD1 hS1 kk
theorem ev_aald {o n : Nat} {f : Nat → Option Nat} {i : Int32} {v : Nat} (hd : decode (ev_c mi) pc = .ok (.aaload, 1)) (hm : M[o]? = some (.inl (3, n, .inr (.inr (.inr (.inr f)))))) (hi : vp_in i n) (hv : f i.toNatClampNeg = some v) (kk : ev_ l mi kc ks (pc + 1) ls (.ref v :: st) M Q) : ev_ l mi kc ks pc ls (.int i :: .ref o :: st) M Q := by
  intro p e s m args below meth c D ad0 ad ax cA A H locs lsA L0 hC hS hA hL ha hP hD hK hX hM hO hOL hl hn
  refine va_aldq hC.2.1 hC.2.2.1 hK hP o 3 (ev_wl_get hm) rfl hi hd ?_
  have e1 : va_rf ((f i.toNatClampNeg).map ad) = ev_tr ad ax (.ref v) := by rw [hv]; rfl
  show W p l e (ev_rm mi) s m args below meth c H locs kc ks _ (F0 m (pc + 1) lsA (va_rf ((f i.toNatClampNeg).map ad) :: _))
  rw [e1]
  exact kk p e s m args below meth c D ad0 ad ax cA A H locs lsA L0 hC hS hA hL ha hP hD hK hX hM (ev_okS_c.mpr ⟨hM o _ hm _ _ hv, ev_okS_t (ev_okS_t hO)⟩) hOL hl hn
theorem ev_aast {o n v : Nat} {f : Nat → Option Nat} {vs : List Value} {i : Int32} (hd : decode (ev_c mi) pc = .ok (.aastore, 1)) (hm : M[o]? = some (.inl (3, n, .inr (.inr (.inr (.inr f)))))) (hv : M[v]? = some (.inr (2, vs))) (hi : vp_in i n) (kk : ev_ l mi kc ks (pc + 1) ls st (M.set o (.inl (3, n, .inr (.inr (.inr (.inr (va_up f i.toNatClampNeg (some v)))))))) Q) : ev_ l mi kc ks pc ls (.ref v :: .int i :: .ref o :: st) M Q := by
  intro p e s m args below meth c D ad0 ad ax cA A H locs lsA L0 hC hS hA hL ha hP hD hK hX hM hO hOL hl hn
  refine va_astq (r := (RX2, TX2, 4)) hC.2.1 hC.2.2.1 hK hP hD hS o 3 v 2 (ev_wl_get hm) rfl (ev_wl_get hv) rfl hi hd (fun H1 locs1 hP1 hD1 hS1 => ?_)
  have ef : (fun j => (va_up f i.toNatClampNeg (some v) j).map ad) = va_up (fun j => (f j).map ad) i.toNatClampNeg (some (ad v)) := by
    funext j
    unfold va_up
    split <;> rfl
  have e1 : (ev_wl ad ax cA M).set o (ad o, .inl (cA 3, n, .inr (.inr (.inr (.inr (va_up (fun j => (f j).map ad) i.toNatClampNeg (some (ad v)))))))) = ev_wl ad ax cA (M.set o (.inl (3, n, .inr (.inr (.inr (.inr (va_up f i.toNatClampNeg (some v)))))))) := by
    rw [← ev_wl_set, ← ef]; rfl
  have hP1 := e1 ▸ hP1
  have hD1 := e1 ▸ hD1
  have hlen : (M.set o (.inl (3, n, .inr (.inr (.inr (.inr (va_up f i.toNatClampNeg (some v)))))))).length = M.length := List.length_set
  refine kk p e s m args below meth c D ad0 ad ax cA A H1 locs1 lsA L0 hC hS1 hA (by rw [hlen]; exact hL) ha hP1 hD1 hK hX (ev_okM_set hM (fun j k hk => ?_)) (by rw [hlen]; exact ev_okS_t (ev_okS_t (ev_okS_t hO))) (by rw [hlen]; exact hOL) hl hn
  unfold va_up at hk
  split at hk
  · cases hk; exact ev_okS_h hO
  · exact hM o _ hm j k hk
end EVC

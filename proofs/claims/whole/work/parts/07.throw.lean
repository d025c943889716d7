section EVT
variable {l : Launch} {mi mj : ev_MI} {kc ks pc : Nat} {ls : ev_L} {st : List Value} {M : ev_M} {Q : ev_R → ev_M → Prop}
/-- the words of a throw are the tables' -/
def ev_atOK (L : List Cond) : Bool := L.all (fun w => decide (w ∈ lw_tbl) && (goodWord w || ev_fc w))
theorem ev_at {L : List Cond} (h : ev_atOK L = true) {p : Program} {s : State} {m : MethodId} {args : Array Value} {meth : Method} {c : Code} {ax : Nat → Nat} {A : Nat → Prop} {H : Heap} (hC : ev_Cx l mi p s m args meth c) (hX : ev_X ax A s H) : (∀ w ∈ L, w.before args s = true) ∧ ∀ w ∈ L, vx_ot w = true := by
  have h1 := List.all_eq_true.mp h
  refine ⟨fun w hw => ?_, fun w hw => ?_⟩
  · have h2 := h1 w hw
    simp only [Bool.and_eq_true, decide_eq_true_eq, Bool.or_eq_true] at h2
    rcases h2.2 with h3 | h3
    · exact hC.2.2.2.2.2.1 w (ev_bg h2.1 h3)
    · have h4 := h3
      simp only [ev_fc, Bool.and_eq_true] at h4
      exact va_Nw.use h4.1 (hX.2.2.2.2.2.2.2.2.1 w (List.mem_filter.mpr ⟨h2.1, h3⟩))
  · have h2 := h1 w hw
    simp only [Bool.and_eq_true, decide_eq_true_eq, Bool.or_eq_true] at h2
    unfold vx_ot
    rcases h2.2 with h3 | h3
    · rw [h3, Bool.or_true]
    · simp only [ev_fc, Bool.and_eq_true] at h3
      rw [h3.1, Bool.true_or]
/-- throw new E("text") -/
theorem ev_throw {cls text : String} {names : List String} {ik is ic : Nat} (hh : ev_h mi = []) (hcls : Bundle.fit cls = true) (hnames : ∀ n ∈ names, Bundle.fit n = true)
    (hk : ev_atOK (Cond.classLink (ev_y mi).cls ik cls :: Cond.initialized cls :: vx_atS (ev_y mi).cls ic cls names) = true) (hstr : ((ev_y mi).cls, is, text) ∈ ev_strs)
    (d0 : decode (ev_c mi) pc = .ok (.new ik, 3)) (d3 : decode (ev_c mi) (pc + 3) = .ok (.dup, 1)) (d4 : decode (ev_c mi) (pc + 4) = .ok (.ldc is, 2)) (d6 : decode (ev_c mi) (pc + 6) = .ok (.invokespecial ic, 3)) (d9 : decode (ev_c mi) (pc + 9) = .ok (.athrow, 1))
    (hR : names.length + 3 < ev_fr mi ∧ (st.map (fun v => bif ev_c2 v then 2 else 1)).sum + (13 * (names.length + 1) + 43) ≤ ev_lo mi ∧ kc + 1 ≤ ev_mc mi ∧ ks + 6 ≤ ev_ms mi)
    (hq : Q (.inr cls) M) : ev_ l mi kc ks pc ls st M Q := by
  intro p e s m args below meth c D ad0 ad ax cA A H locs lsA L0 hC hS hA hL ha hP hD hK hX hM hO hOL hl hn
  obtain ⟨hw, hg⟩ := ev_at hk hC hX
  obtain ⟨sa, hsa⟩ := hX.2.2.2.2.2.2.2.1 _ hstr
  refine vx_throwS (names := names) (A := A) hC.2.1 hC.2.2.1 hC.1 hC.2.2.2.2.1 hcls hnames (hw _ (by simp)) (hw _ (by simp)) hsa (fun w h => hw w (List.mem_cons_of_mem _ (List.mem_cons_of_mem _ h))) hg hX.2.2.2.2.1 hX.2.2.2.2.2.1 hS (by rw [hC.2.2.2.1]; exact hl.1) d0 d3 d4 d6 d9 ?_ hR.1 (by rw [ev_cat_sum]; exact hR.2.1) hR.2.2.1 hR.2.2.2 hC.2.2.2.2.2.2.1 (fun t hal hz hkp => ?_) hS.2.2 hR.2.2.1 hR.2.2.2
  · intro x hx
    have h9 := hC.2.2.2.2.2.2.2.2.2
    rw [hh] at h9
    rw [h9] at hx
    exact absurd hx List.not_mem_nil
  · refine ⟨⟨.inr cls, M, ad, hL, ha, rfl, hq, hM, fun v h => (nomatch h), hP.kept (fun k q hk => hkp q.1 (hP k q hk).lt), hD⟩, Nat.le_trans hS.1 hz, fun q h1 h2 => ?_⟩
    rw [hkp q (Nat.lt_of_lt_of_le h1 hS.1)]
    exact hS.2.1 q h1 h2
theorem ev_throwW {cls text : String} {names : List String} {ik is ic : Nat} (hh : ev_h mi = []) (hcls : Bundle.fit cls = true) (hnames : ∀ n ∈ names, Bundle.fit n = true)
    (hk : ev_atOK (Cond.classLink (ev_y mi).cls ik cls :: Cond.initialized cls :: vx_atS (ev_y mi).cls ic cls names) = true) (hstr : ((ev_y mi).cls, is, text) ∈ ev_strs)
    (d0 : decode (ev_c mi) pc = .ok (.new ik, 3)) (d3 : decode (ev_c mi) (pc + 3) = .ok (.dup, 1)) (d4 : decode (ev_c mi) (pc + 4) = .ok (.ldc_w is, 3)) (d6 : decode (ev_c mi) (pc + 7) = .ok (.invokespecial ic, 3)) (d9 : decode (ev_c mi) (pc + 10) = .ok (.athrow, 1))
    (hR : names.length + 3 < ev_fr mi ∧ (st.map (fun v => bif ev_c2 v then 2 else 1)).sum + (13 * (names.length + 1) + 43) ≤ ev_lo mi ∧ kc + 1 ≤ ev_mc mi ∧ ks + 6 ≤ ev_ms mi)
    (hq : Q (.inr cls) M) : ev_ l mi kc ks pc ls st M Q := by
  intro p e s m args below meth c D ad0 ad ax cA A H locs lsA L0 hC hS hA hL ha hP hD hK hX hM hO hOL hl hn
  obtain ⟨hw, hg⟩ := ev_at hk hC hX
  obtain ⟨sa, hsa⟩ := hX.2.2.2.2.2.2.2.1 _ hstr
  refine vx_throwSW (names := names) (A := A) hC.2.1 hC.2.2.1 hC.1 hC.2.2.2.2.1 hcls hnames (hw _ (by simp)) (hw _ (by simp)) hsa (fun w h => hw w (List.mem_cons_of_mem _ (List.mem_cons_of_mem _ h))) hg hX.2.2.2.2.1 hX.2.2.2.2.2.1 hS (by rw [hC.2.2.2.1]; exact hl.1) d0 d3 d4 d6 d9 ?_ hR.1 (by rw [ev_cat_sum]; exact hR.2.1) hR.2.2.1 hR.2.2.2 hC.2.2.2.2.2.2.1 (fun t hal hz hkp => ?_) hS.2.2 hR.2.2.1 hR.2.2.2
  · intro x hx
    have h9 := hC.2.2.2.2.2.2.2.2.2
    rw [hh] at h9
    rw [h9] at hx
    exact absurd hx List.not_mem_nil
  · refine ⟨⟨.inr cls, M, ad, hL, ha, rfl, hq, hM, fun v h => (nomatch h), hP.kept (fun k q hk => hkp q.1 (hP k q hk).lt), hD⟩, Nat.le_trans hS.1 hz, fun q h1 h2 => ?_⟩
    rw [hkp q (Nat.lt_of_lt_of_le h1 hS.1)]
    exact hS.2.1 q h1 h2
/-! the four rows of signs, Math -/
theorem ev_gets {idx k : Nat} (hk : k < 4) (hw : Cond.fieldLink (ev_y mi).cls idx "LossyChannelsModel" (ev_wn k) "[C" ∈ ev_bw) (hd : decode (ev_c mi) pc = .ok (.getstatic idx, 3)) (kk : ev_ l mi kc ks (pc + 3) ls (.retAddr k :: st) M Q) : ev_ l mi kc ks pc ls st M Q := by
  intro p e s m args below meth c D ad0 ad ax cA A H locs lsA L0 hC hS hA hL ha hP hD hK hX hM hO hOL hl hn
  exact va_gets hC.2.1 hC.2.2.1 (hX.1 k hk).1 hS hC.2.2.2.2.1 (hC.2.2.2.2.2.1 _ hw) (fun _ h => h) hd (kk p e s m args below meth c D ad0 ad ax cA A H locs lsA L0 hC hS hA hL ha hP hD hK hX hM (ev_okS_c.mpr ⟨trivial, hO⟩) hOL hl hn)
theorem ev_tlen {k : Nat} (hk : k < 4) (hd : decode (ev_c mi) pc = .ok (.arraylength, 1)) (kk : ev_ l mi kc ks (pc + 1) ls (.int 4 :: st) M Q) : ev_ l mi kc ks pc ls (.retAddr k :: st) M Q := by
  intro p e s m args below meth c D ad0 ad ax cA A H locs lsA L0 hC hS hA hL ha hP hD hK hX hM hO hOL hl hn
  exact va_tlen hC.2.1 hC.2.2.1 (hX.1 k hk).2 hS rfl hd (kk p e s m args below meth c D ad0 ad ax cA A H locs lsA L0 hC hS hA hL ha hP hD hK hX hM (ev_okS_c.mpr ⟨trivial, ev_okS_t hO⟩) hOL hl hn)
theorem ev_tcald {k : Nat} {i : Int32} (hk : k < 4) (hi : vp_in i 4) (hd : decode (ev_c mi) pc = .ok (.caload, 1)) (kk : ev_ l mi kc ks (pc + 1) ls (.int ((ev_wc k).getD i.toNatClampNeg 0) :: st) M Q) : ev_ l mi kc ks pc ls (.int i :: .retAddr k :: st) M Q := by
  intro p e s m args below meth c D ad0 ad ax cA A H locs lsA L0 hC hS hA hL ha hP hD hK hX hM hO hOL hl hn
  exact va_tc hC.2.1 hC.2.2.1 (hX.1 k hk).2 hS hi rfl hd (kk p e s m args below meth c D ad0 ad ax cA A H locs lsA L0 hC hS hA hL ha hP hD hK hX hM (ev_okS_c.mpr ⟨trivial, ev_okS_t (ev_okS_t hO)⟩) hOL hl hn)
def ev_mth (w : MethodName) (b : ByteArray) : List Cond := [.static w, .initialized "java/lang/Math", .code w b 2 (some .int)]
theorem ev_max {idx : Nat} {x y : Int32} (hw : Cond.methodLink (ev_y mi).cls idx Lib.Math.max.name ∈ ev_bw) (hw2 : ∀ w ∈ ev_mth Lib.Math.max.name Lib.Math.max.code, w ∈ ev_bw) (hd : decode (ev_c mi) pc = .ok (.invokestatic idx, 3)) (hR : 1 ≤ ev_fr mi ∧ (st.map (fun v => bif ev_c2 v then 2 else 1)).sum + 13 ≤ ev_lo mi ∧ kc ≤ ev_mc mi ∧ ks ≤ ev_ms mi) (kk : ev_ l mi kc ks (pc + 3) ls (.int (if x < y then y else x) :: st) M Q) : ev_ l mi kc ks pc ls (.int y :: .int x :: st) M Q := by
  intro p e s m args below meth c D ad0 ad ax cA A H locs lsA L0 hC hS hA hL ha hP hD hK hX hM hO hOL hl hn
  have hbw := hC.2.2.2.2.2.1
  exact va_mmax hC.2.1 hC.2.2.1 (hC.2.2.2.1.trans hl.1.symm) hC.2.2.2.2.1 (hbw _ hw) (hbw _ (hw2 _ (by simp [ev_mth]))) (hbw _ (hw2 _ (by simp [ev_mth]))) (hbw _ (hw2 _ (by simp [ev_mth]))) hR.1 (by rw [ev_cat_sum]; exact hR.2.1) hR.2.2.1 hR.2.2.2 hd (kk p e s m args below meth c D ad0 ad ax cA A H locs lsA L0 hC hS hA hL ha hP hD hK hX hM (ev_okS_c.mpr ⟨trivial, ev_okS_t (ev_okS_t hO)⟩) hOL hl hn)
theorem ev_min {idx : Nat} {x y : Int32} (hw : Cond.methodLink (ev_y mi).cls idx Lib.Math.min.name ∈ ev_bw) (hw2 : ∀ w ∈ ev_mth Lib.Math.min.name Lib.Math.min.code, w ∈ ev_bw) (hd : decode (ev_c mi) pc = .ok (.invokestatic idx, 3)) (hR : 1 ≤ ev_fr mi ∧ (st.map (fun v => bif ev_c2 v then 2 else 1)).sum + 13 ≤ ev_lo mi ∧ kc ≤ ev_mc mi ∧ ks ≤ ev_ms mi) (kk : ev_ l mi kc ks (pc + 3) ls (.int (if y < x then y else x) :: st) M Q) : ev_ l mi kc ks pc ls (.int y :: .int x :: st) M Q := by
  intro p e s m args below meth c D ad0 ad ax cA A H locs lsA L0 hC hS hA hL ha hP hD hK hX hM hO hOL hl hn
  have hbw := hC.2.2.2.2.2.1
  exact va_mmin hC.2.1 hC.2.2.1 (hC.2.2.2.1.trans hl.1.symm) hC.2.2.2.2.1 (hbw _ hw) (hbw _ (hw2 _ (by simp [ev_mth]))) (hbw _ (hw2 _ (by simp [ev_mth]))) (hbw _ (hw2 _ (by simp [ev_mth]))) hR.1 (by rw [ev_cat_sum]; exact hR.2.1) hR.2.2.1 hR.2.2.2 hd (kk p e s m args below meth c D ad0 ad ax cA A H locs lsA L0 hC hS hA hL ha hP hD hK hX hM (ev_okS_c.mpr ⟨trivial, ev_okS_t (ev_okS_t hO)⟩) hOL hl hn)
end EVT

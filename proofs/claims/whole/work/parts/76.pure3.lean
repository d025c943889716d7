/-! ===== pure: the states stay well-formed ===== -/
theorem inR_y {a : Int32} {n : Nat} (hn : n < 2 ^ 31) (h : ¬ inR a n = false) : tN a < n := (inR_t hn (eq_true_of_ne_false h)).1
theorem trs_app {T : List Tr} {t : Tr} (hT : trs T) (ht : trO t) : trs (T ++ [t]) := fun x hx => by
  rcases List.mem_append.mp hx with h | h
  · exact hT x h
  · rw [List.mem_singleton.mp h]; exact ht

theorem rec_ok {H : Hs} {x : Cf} {k : Nat} (hH : cfs 10 (hL H)) (hx : cfW 10 x) : cfs 10 (hL (rec H x k)) := by
  unfold rec
  rw [hL_app, cfs_app]
  refine ⟨?_, cfs_one.mpr hx⟩
  split
  · exact hH
  · rw [hL_tail]; exact fun c hc => hH c (List.mem_of_mem_tail hc)
theorem ap_ok9 {x : Cf} {t : Tr} (hx : cfW 10 x) (ht : trO t) (h : ¬ (t.2.2.1 == 1 && decide (10 ≤ (cw x t.2.2.2.1).length)) = true) : cfW 10 (ap t x).2 := by
  have hc := cw_ok hx t.2.2.2.1
  unfold ap
  split
  · rename_i q
    have hl : ¬ 10 ≤ (cw x t.2.2.2.1).length := fun z => h (by rw [q, decide_eq_true z]; rfl)
    refine cset_ok hx _ (fun a ha => ?_) (by rw [List.length_append, List.length_singleton]; omega) ht.2.1
    rcases List.mem_append.mp ha with q | q
    · exact hc.1 a q
    · rw [List.mem_singleton.mp q]; exact ht.2.2.2.2
  · split
    · exact cset_ok hx _ (fun a ha => hc.1 a (List.mem_of_mem_drop ha)) (by rw [List.length_drop]; have := hc.2; omega) ht.2.1
    · exact ⟨ht.2.1, hx.2⟩
theorem cset_ok9 {x : Cf} (hx : cfW 10 x) (ch : Nat) {w : List Nat} (hw : wk w) (hl : w.length ≤ 10) : cfW 10 (cset x ch w) := by
  have h := cset_ok hx ch hw hl hx.1
  have e : cset x ch w = (x.1, (cset x ch w).2) := Prod.ext (cset_1 x ch w) rfl
  rw [e]; exact h
theorem k_Add {S : St} (hS : okS S) (a b c d e : Int32) : okS (sAdd S a b c d e).2 := by
  obtain ⟨h1, h2⟩ := hS
  unfold sAdd
  split
  · exact ⟨h1, h2⟩
  · rename_i qa
    split
    · exact ⟨h1, h2⟩
    · rename_i qb
      split
      · exact ⟨h1, h2⟩
      · rename_i qc
        split
        · exact ⟨h1, h2⟩
        · rename_i qd
          split
          · exact ⟨h1, h2⟩
          · rename_i qe
            split
            · exact ⟨h1, h2⟩
            · refine ⟨trs_app h1 ⟨inR_y (by decide) qa, inR_y (by decide) qb, inR_y (by decide) qc, ?_, ?_⟩, h2⟩
              · show (if tN c = 0 then 0 else tN d) < 2
                split
                · decide
                · rename_i z; exact inR_y (by decide) (fun y => qd ⟨z, y⟩)
              · show (if tN c = 0 then 0 else tN e) < 3
                split
                · decide
                · rename_i z; exact inR_y (by decide) (fun y => qe ⟨z, y⟩)
theorem k_Rem {S : St} (hS : okS S) (a : Int32) : okS (sRem S a).2 := by
  obtain ⟨h1, h2⟩ := hS
  unfold sRem
  split
  · exact ⟨h1, h2⟩
  · exact ⟨fun t ht => h1 t (List.mem_of_mem_eraseIdx ht), h2⟩
theorem k_Set {S : St} (hS : okS S) (a : Int32) : okS (sSet S a).2 := by
  obtain ⟨h1, h2, h3, h4, h5⟩ := hS
  unfold sSet
  split
  · exact ⟨h1, h2, h3, h4, h5⟩
  · rename_i q; exact ⟨h1, ⟨inR_y (by decide) q, h2.2⟩, h3, cfs_nil, h5⟩
theorem k_Put {S : St} (hS : okS S) (a b : Int32) : okS (sPut S a b).2 := by
  obtain ⟨h1, h2, h3, h4, h5⟩ := hS
  unfold sPut
  split
  · exact ⟨h1, h2, h3, h4, h5⟩
  · split
    · exact ⟨h1, h2, h3, h4, h5⟩
    · rename_i qb
      split
      · exact ⟨h1, h2, h3, h4, h5⟩
      · rename_i ql
        have hc := cw_ok h2 (tN a)
        refine ⟨h1, cset_ok9 h2 _ (fun y hy => ?_) (by rw [List.length_append, List.length_singleton]; omega), h3, cfs_nil, h5⟩
        rcases List.mem_append.mp hy with q | q
        · exact hc.1 y q
        · rw [List.mem_singleton.mp q]; exact inR_y (by decide) qb
theorem k_Clr {S : St} (hS : okS S) (a : Int32) : okS (sClr S a).2 := by
  obtain ⟨h1, h2, h3, h4, h5⟩ := hS
  unfold sClr
  split
  · exact ⟨h1, h2, h3, h4, h5⟩
  · exact ⟨h1, cset_ok9 h2 _ (fun y hy => absurd hy List.not_mem_nil) (Nat.zero_le _), h3, cfs_nil, h5⟩
theorem k_Fir {S : St} (hS : okS S) (a : Int32) (h10 : S.T.length ≤ 10) : okS (sFir S a).2 := by
  obtain ⟨h1, h2, h3, h4, h5⟩ := hS
  unfold sFir
  split
  · exact ⟨h1, h2, h3, h4, h5⟩
  · rename_i qa
    split
    · exact ⟨h1, h2, h3, h4, h5⟩
    · split
      · exact ⟨h1, h2, h3, h4, h5⟩
      · rename_i q
        exact ⟨h1, ap_ok9 h2 (trs_tg h1 (inR_y (by omega) qa)) q, h3, rec_ok h4 h2, h5⟩
theorem k_Los {S : St} (hS : okS S) (a b : Int32) : okS (sLos S a b).2 := by
  obtain ⟨h1, h2, h3, h4, h5⟩ := hS
  unfold sLos
  split
  · exact ⟨h1, h2, h3, h4, h5⟩
  · split
    · exact ⟨h1, h2, h3, h4, h5⟩
    · have hc := cw_ok h2 (tN a)
      exact ⟨h1, cset_ok9 h2 _ (fun y hy => hc.1 y (List.mem_of_mem_eraseIdx hy)) (Nat.le_trans (List.length_eraseIdx_le _ _) hc.2), h3, rec_ok h4 h2, h5⟩
theorem k_Und {S : St} (hS : okS S) : okS (sUnd S).2 := by
  obtain ⟨h1, h2, h3, h4, h5⟩ := hS
  unfold sUnd
  split
  · exact ⟨h1, h2, h3, h4, h5⟩
  · rename_i q
    refine ⟨h1, cfs_cg h4 (by rw [hL_len]; omega), h3, ?_, h5⟩
    show cfs 10 (hL S.H.dropLast)
    rw [hL_dropLast]
    exact fun c hc => h4 c (List.dropLast_subset _ hc)
theorem k_AdG {S : St} (hS : okS S) : okS (sAdG S).2 := by
  obtain ⟨h1, h2, h3, h4, h5⟩ := hS
  unfold sAdG
  split
  · exact ⟨h1, h2, h3, h4, h5⟩
  · exact ⟨h1, h2, cfs_app.mpr ⟨h3, cfs_one.mpr h2⟩, h4, h5⟩
theorem k_ClG {S : St} (hS : okS S) : okS (sClG S).2 := by
  obtain ⟨h1, h2, h3, h4, h5⟩ := hS
  exact ⟨h1, h2, cfs_nil, h4, h5⟩
theorem k_App {S : St} (hS : okS S) {c : Nat} (hc : c < 65536) : okS (sApp S c).2 := by
  obtain ⟨h1, h2, h3, h4, h5, h6, h7⟩ := hS
  unfold sApp
  split
  · exact ⟨h1, h2, h3, h4, h5, h6, h7⟩
  · rename_i q
    refine ⟨h1, h2, h3, h4, ?_, fun i => ?_, h7⟩
    · show S.n + 1 ≤ 80
      omega
    · show (if i = S.n then c else S.t i) < 65536
      split
      · exact hc
      · exact h6 i
theorem k_Sav {S : St} (hS : okS S) (hT : S.T.length ≤ 10) (hG : S.G.length ≤ 3) : okS (sSav S) := by
  obtain ⟨h1, h2, h3, h4, h5, h6, h7⟩ := hS
  exact ⟨h1, h2, h3, h4, h5, h6, h1, hT, h2, h3, hG⟩
theorem k_Res {S : St} (hS : okS S) : okS (sRes S).2 := by
  obtain ⟨h1, h2, h3, h4, h5, h6, h7, h8, h9, h10, h11⟩ := hS
  unfold sRes
  split
  · exact ⟨h1, h2, h3, h4, h5, h6, h7, h8, h9, h10, h11⟩
  · exact ⟨h7, h9, h10, cfs_nil, h5, h6, h7, h8, h9, h10, h11⟩
theorem k_Rea {S : St} (hS : okS S) : okS (sRea S).2 := by
  obtain ⟨h1, h2, h3, h4, h5, h6⟩ := hS
  have hp : trs (rdP S).1 ∧ cfs 10 (rdP S).2.1 := pl_ok 81 0 [] [] 0 (Nat.zero_le _) (fun t ht => absurd ht List.not_mem_nil) cfs_nil
  unfold sRea
  split
  · exact ⟨h1, h2, h3, h4, Nat.zero_le _, h6⟩
  · split
    · exact ⟨h1, h2, h3, h4, Nat.zero_le _, h6⟩
    · split
      · exact ⟨h1, h2, h3, h4, Nat.zero_le _, h6⟩
      · refine ⟨fun t ht => ?_, h2, cfs_app.mpr ⟨h3, hp.2⟩, h4, Nat.zero_le _, h6⟩
        rcases List.mem_append.mp ht with q | q
        · exact h1 t q
        · exact hp.1 t q

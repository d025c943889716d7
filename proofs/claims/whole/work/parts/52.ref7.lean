/-! ===== the reference: trail, goals, transitions ===== -/
theorem rec_lt {H : Hs} {x : Cf} {k : Nat} (h : H.length < 20) : rec H x k = H ++ [(x, k)] := by unfold rec; rw [if_pos h]
theorem rec_ge {H : Hs} {x : Cf} {k : Nat} (h : ¬ H.length < 20) : rec H x k = H.tail ++ [(x, k)] := by unfold rec; rw [if_neg h]
theorem rec_len {H : Hs} {x : Cf} {k : Nat} (h : H.length ≤ 20) : (rec H x k).length ≤ 20 := by
  by_cases q : H.length < 20
  · rw [rec_lt q, List.length_append, List.length_singleton]; omega
  · rw [rec_ge q, List.length_append, List.length_singleton, List.length_tail]; omega
/-- other transitions -/
theorem RR.nT {M M1 : ev_M} {o : Nat} {S : St} {zi zi' : Nat → Int32} {zl zl' : Nat → Int64} (h : RR M o S zi zl) {T : List Tr} (h1 : M1[o]? = some (.inr (10, zo o zi' zl'))) (hf : FX o (o + 1) (o + 2) M M1) (hT : PT M1 (o + 1) T) (p2 : zi' 2 = nI T.length) (p30 : zi' 30 = nI 0) (ki : ∀ k, k ∈ [3, 4, 20, 42, 45, 50, 51, 52, 55] → zi' k = zi k) (kl : ∀ k, k ∈ [5, 6, 53, 54] → zl' k = zl k) : RR M1 o (St.mk T S.x S.G S.H S.n S.t S.f S.tk S.T9 S.x9 S.G9) zi' zl' := by
  obtain ⟨a1, a2, a3, a4, a5, a6, a7, a8, a9, a10⟩ := h.p
  refine ⟨h1, ⟨p2, (ki 3 (by decide)).trans a2, (ki 4 (by decide)).trans a3, (kl 5 (by decide)).trans a4, (kl 6 (by decide)).trans a5, (ki 20 (by decide)).trans a6, (ki 42 (by decide)).trans a7, (ki 45 (by decide)).trans a8, (ki 55 (by decide)).trans a9, fun z => ?_⟩, hT, h.H.fx hf (by omega), h.y.fx hf (by omega), h.G.fx hf (by omega) (by omega), ?_, h.u.fx hf (by omega), h.x.fx hf (by omega), h.k.fx hf (by omega), h.s.fx hf (by omega)⟩
  · rw [ki 50 (by decide), ki 51 (by decide), ki 52 (by decide), kl 53 (by decide), kl 54 (by decide)]
    exact a10 z
  · rw [p30]
    exact PA.no (h.a.fx hf (by omega))
/-- other goals -/
theorem RR.nG {M M1 : ev_M} {o : Nat} {S : St} {zi zi' : Nat → Int32} {zl zl' : Nat → Int64} (h : RR M o S zi zl) {G : List Cf} (h1 : M1[o]? = some (.inr (10, zo o zi' zl'))) (hf : FX o (o + 8) (o + 11) M M1) (hG : PGl M1 (o + 8) G) (p20 : zi' 20 = nI G.length) (p30 : zi' 30 = nI 0) (ki : ∀ k, k ∈ [2, 3, 4, 42, 45, 50, 51, 52, 55] → zi' k = zi k) (kl : ∀ k, k ∈ [5, 6, 53, 54] → zl' k = zl k) : RR M1 o (St.mk S.T S.x G S.H S.n S.t S.f S.tk S.T9 S.x9 S.G9) zi' zl' := by
  obtain ⟨a1, a2, a3, a4, a5, a6, a7, a8, a9, a10⟩ := h.p
  refine ⟨h1, ⟨(ki 2 (by decide)).trans a1, (ki 3 (by decide)).trans a2, (ki 4 (by decide)).trans a3, (kl 5 (by decide)).trans a4, (kl 6 (by decide)).trans a5, p20, (ki 42 (by decide)).trans a7, (ki 45 (by decide)).trans a8, (ki 55 (by decide)).trans a9, fun z => ?_⟩, h.T.fx hf (by omega) (by omega), h.H.fx hf (by omega), h.y.fx hf (by omega), hG, ?_, h.u.fx hf (by omega), h.x.fx hf (by omega), h.k.fx hf (by omega), h.s.fx hf (by omega)⟩
  · rw [ki 50 (by decide), ki 51 (by decide), ki 52 (by decide), kl 53 (by decide), kl 54 (by decide)]
    exact a10 z
  · rw [p30]
    exact PA.no (h.a.fx hf (by omega))
set_option maxHeartbeats 4000000 in
set_option maxRecDepth 100000 in
theorem c_R_rem_t {l : Launch} (hl : l.stackTraces = false) {M : ev_M} (o : Nat) (zi : Nat → Int32) (zl : Nat → Int64) (hO : M[o]? = some (.inr (10, zo o zi zl))) (x : Cf) (h3 : zi 3 = nI x.1) (h5 : zl 5 = e2 x.2.1) (h6 : zl 6 = e2 x.2.2) (H : Hs) (hH : H.length < 20) (h4 : zi 4 = nI H.length) (f kf : Nat → Int32) (g h : Nat → Int64) (hr2 : M[o + 2]? = some (.inl (0, 21, .inl f))) (hr3 : M[o + 3]? = some (.inl (0, 21, .inl kf))) (hr4 : M[o + 4]? = some (.inl (1, 21, .inr (.inl g)))) (hr5 : M[o + 5]? = some (.inl (1, 21, .inr (.inl h)))) (hQ : ∀ j, j < H.length → (f j = nI (cg (hL H) j).1 ∧ g j = e2 (cg (hL H) j).2.1 ∧ h j = e2 (cg (hL H) j).2.2 ∧ kf j = nI (kg H j))) (k : Nat) (v9 : Option Value) : ev_ l m_X11_remembers 0 0 89 [some (.ref (o)), some (.int (nI k)), none] [] M (fun r M1 => r = .inl none ∧ ∃ zi', M1[o]? = some (.inr (10, zo o zi' zl)) ∧ zi' 4 = nI (H ++ [(x, k)]).length ∧ (∀ j, j ≠ 4 → zi' j = zi j) ∧ PH M1 o (H ++ [(x, k)]) ∧ FX o (o + 2) (o + 6) M M1) := by
  refine ev_blk (B := [(.aload_n 0, 1)]) (pe := 90) (ls' := [some (.ref (o)), some (.int (nI k)), none]) (st' := [.ref (o)]) ⟨dX11_remembers_89, rfl⟩ rfl ?_
  refine ev_getf (v := .ref (o + 2)) F_RX11_13 dX11_remembers_90 hO rfl ?_
  refine ev_blk (B := [(.aload_n 0, 1)]) (pe := 94) (ls' := [some (.ref (o)), some (.int (nI k)), none]) (st' := [.ref (o), .ref (o + 2)]) ⟨dX11_remembers_93, rfl⟩ rfl ?_
  refine ev_getf (v := .int (nI (H.length))) F_RX11_166 dX11_remembers_94 hO (congrArg (fun q => some (Value.int q)) h4) ?_
  refine ev_blk (B := [(.aload_n 0, 1)]) (pe := 98) (ls' := [some (.ref (o)), some (.int (nI k)), none]) (st' := [.ref (o), .int (nI (H.length)), .ref (o + 2)]) ⟨dX11_remembers_97, rfl⟩ rfl ?_
  refine ev_getf (v := .int (nI (x.1))) F_RX11_169 dX11_remembers_98 hO (congrArg (fun q => some (Value.int q)) h3) ?_
  refine ev_iast dX11_remembers_101 hr2 (vp_in_nI (show H.length < 21 by omega) (by omega)) ?_
  rw [nI_clamp (show H.length < 2 ^ 31 by omega)]
  refine ev_nm (M0 := M.set (o + 2) (.inl (0, 21, .inl (upd f H.length (nI (x.1)))))) (fun M1 eM1 => ?_)
  have f2 : M1[o]? = some (.inr (10, zo o (zi) (zl))) := by rw [eM1, ev_sn (by omega)]; exact hO
  have f3 : M1[o + 2]? = some (.inl (0, 21, .inl (upd f H.length (nI (x.1))))) := by rw [eM1]; exact ev_sg hr2
  have f4 : M1[o + 3]? = some (.inl (0, 21, .inl (kf))) := by rw [eM1, ev_sn (by omega)]; exact hr3
  have f5 : M1[o + 4]? = some (.inl (1, 21, .inr (.inl (g)))) := by rw [eM1, ev_sn (by omega)]; exact hr4
  have f6 : M1[o + 5]? = some (.inl (1, 21, .inr (.inl (h)))) := by rw [eM1, ev_sn (by omega)]; exact hr5
  refine ev_blk (B := [(.aload_n 0, 1)]) (pe := 103) (ls' := [some (.ref (o)), some (.int (nI k)), none]) (st' := [.ref (o)]) ⟨dX11_remembers_102, rfl⟩ rfl ?_
  refine ev_getf (v := .ref (o + 4)) F_RX11_19 dX11_remembers_103 f2 rfl ?_
  refine ev_blk (B := [(.aload_n 0, 1)]) (pe := 107) (ls' := [some (.ref (o)), some (.int (nI k)), none]) (st' := [.ref (o), .ref (o + 4)]) ⟨dX11_remembers_106, rfl⟩ rfl ?_
  refine ev_getf (v := .int (nI (H.length))) F_RX11_166 dX11_remembers_107 f2 (congrArg (fun q => some (Value.int q)) h4) ?_
  refine ev_blk (B := [(.aload_n 0, 1)]) (pe := 111) (ls' := [some (.ref (o)), some (.int (nI k)), none]) (st' := [.ref (o), .int (nI (H.length)), .ref (o + 4)]) ⟨dX11_remembers_110, rfl⟩ rfl ?_
  refine ev_getf (v := .long (e2 x.2.1)) F_RX11_159 dX11_remembers_111 f2 (congrArg (fun q => some (Value.long q)) h5) ?_
  refine ev_last dX11_remembers_114 f5 (vp_in_nI (show H.length < 21 by omega) (by omega)) ?_
  rw [nI_clamp (show H.length < 2 ^ 31 by omega)]
  refine ev_nm (M0 := M1.set (o + 4) (.inl (1, 21, .inr (.inl (vp_updL g H.length (e2 x.2.1)))))) (fun M7 eM7 => ?_)
  have f8 : M7[o]? = some (.inr (10, zo o (zi) (zl))) := by rw [eM7, ev_sn (by omega)]; exact f2
  have f9 : M7[o + 2]? = some (.inl (0, 21, .inl (upd f H.length (nI (x.1))))) := by rw [eM7, ev_sn (by omega)]; exact f3
  have f10 : M7[o + 3]? = some (.inl (0, 21, .inl (kf))) := by rw [eM7, ev_sn (by omega)]; exact f4
  have f11 : M7[o + 4]? = some (.inl (1, 21, .inr (.inl (vp_updL g H.length (e2 x.2.1))))) := by rw [eM7]; exact ev_sg f5
  have f12 : M7[o + 5]? = some (.inl (1, 21, .inr (.inl (h)))) := by rw [eM7, ev_sn (by omega)]; exact f6
  refine ev_blk (B := [(.aload_n 0, 1)]) (pe := 116) (ls' := [some (.ref (o)), some (.int (nI k)), none]) (st' := [.ref (o)]) ⟨dX11_remembers_115, rfl⟩ rfl ?_
  refine ev_getf (v := .ref (o + 5)) F_RX11_23 dX11_remembers_116 f8 rfl ?_
  refine ev_blk (B := [(.aload_n 0, 1)]) (pe := 120) (ls' := [some (.ref (o)), some (.int (nI k)), none]) (st' := [.ref (o), .ref (o + 5)]) ⟨dX11_remembers_119, rfl⟩ rfl ?_
  refine ev_getf (v := .int (nI (H.length))) F_RX11_166 dX11_remembers_120 f8 (congrArg (fun q => some (Value.int q)) h4) ?_
  refine ev_blk (B := [(.aload_n 0, 1)]) (pe := 124) (ls' := [some (.ref (o)), some (.int (nI k)), none]) (st' := [.ref (o), .int (nI (H.length)), .ref (o + 5)]) ⟨dX11_remembers_123, rfl⟩ rfl ?_
  refine ev_getf (v := .long (e2 x.2.2)) F_RX11_163 dX11_remembers_124 f8 (congrArg (fun q => some (Value.long q)) h6) ?_
  refine ev_last dX11_remembers_127 f12 (vp_in_nI (show H.length < 21 by omega) (by omega)) ?_
  rw [nI_clamp (show H.length < 2 ^ 31 by omega)]
  refine ev_nm (M0 := M7.set (o + 5) (.inl (1, 21, .inr (.inl (vp_updL h H.length (e2 x.2.2)))))) (fun M13 eM13 => ?_)
  have f14 : M13[o]? = some (.inr (10, zo o (zi) (zl))) := by rw [eM13, ev_sn (by omega)]; exact f8
  have f15 : M13[o + 2]? = some (.inl (0, 21, .inl (upd f H.length (nI (x.1))))) := by rw [eM13, ev_sn (by omega)]; exact f9
  have f16 : M13[o + 3]? = some (.inl (0, 21, .inl (kf))) := by rw [eM13, ev_sn (by omega)]; exact f10
  have f17 : M13[o + 4]? = some (.inl (1, 21, .inr (.inl (vp_updL g H.length (e2 x.2.1))))) := by rw [eM13, ev_sn (by omega)]; exact f11
  have f18 : M13[o + 5]? = some (.inl (1, 21, .inr (.inl (vp_updL h H.length (e2 x.2.2))))) := by rw [eM13]; exact ev_sg f12
  refine ev_blk (B := [(.aload_n 0, 1)]) (pe := 129) (ls' := [some (.ref (o)), some (.int (nI k)), none]) (st' := [.ref (o)]) ⟨dX11_remembers_128, rfl⟩ rfl ?_
  refine ev_getf (v := .ref (o + 3)) F_RX11_16 dX11_remembers_129 f14 rfl ?_
  refine ev_blk (B := [(.aload_n 0, 1)]) (pe := 133) (ls' := [some (.ref (o)), some (.int (nI k)), none]) (st' := [.ref (o), .ref (o + 3)]) ⟨dX11_remembers_132, rfl⟩ rfl ?_
  refine ev_getf (v := .int (nI (H.length))) F_RX11_166 dX11_remembers_133 f14 (congrArg (fun q => some (Value.int q)) h4) ?_
  refine ev_blk (B := [(.iload_n 1, 1)]) (pe := 137) (ls' := [some (.ref (o)), some (.int (nI k)), none]) (st' := [.int (nI k), .int (nI (H.length)), .ref (o + 3)]) ⟨dX11_remembers_136, rfl⟩ rfl ?_
  refine ev_iast dX11_remembers_137 f16 (vp_in_nI (show H.length < 21 by omega) (by omega)) ?_
  rw [nI_clamp (show H.length < 2 ^ 31 by omega)]
  refine ev_nm (M0 := M13.set (o + 3) (.inl (0, 21, .inl (upd kf H.length (nI k))))) (fun M19 eM19 => ?_)
  have f20 : M19[o]? = some (.inr (10, zo o (zi) (zl))) := by rw [eM19, ev_sn (by omega)]; exact f14
  have f21 : M19[o + 2]? = some (.inl (0, 21, .inl (upd f H.length (nI (x.1))))) := by rw [eM19, ev_sn (by omega)]; exact f15
  have f22 : M19[o + 3]? = some (.inl (0, 21, .inl (upd kf H.length (nI k)))) := by rw [eM19]; exact ev_sg f16
  have f23 : M19[o + 4]? = some (.inl (1, 21, .inr (.inl (vp_updL g H.length (e2 x.2.1))))) := by rw [eM19, ev_sn (by omega)]; exact f17
  have f24 : M19[o + 5]? = some (.inl (1, 21, .inr (.inl (vp_updL h H.length (e2 x.2.2))))) := by rw [eM19, ev_sn (by omega)]; exact f18
  refine ev_blk (B := [(.aload_n 0, 1), (.dup, 1)]) (pe := 140) (ls' := [some (.ref (o)), some (.int (nI k)), none]) (st' := [.ref (o), .ref (o)]) ⟨dX11_remembers_138, dX11_remembers_139, rfl⟩ rfl ?_
  refine ev_getf (v := .int (nI (H.length))) F_RX11_166 dX11_remembers_140 f20 (congrArg (fun q => some (Value.int q)) h4) ?_
  refine ev_blk (B := [(.iconst 1, 1), (.iadd, 1)]) (pe := 145) (ls' := [some (.ref (o)), some (.int (nI k)), none]) (st' := [.int (nI ((H.length) + 1)), .ref (o)]) ⟨dX11_remembers_143, dX11_remembers_144, rfl⟩ (by show some (([some (.ref (o)), some (.int (nI k)), none] : ev_L), ([.int ((nI (H.length)) + (nI 1)), .ref (o)] : List Value)) = _; rw [nI_add (H.length) 1]) ?_
  refine ev_put F_RX11_166 dX11_remembers_145 f20 (Nat.le_of_ble_eq_true rfl) (fun _ _ => ⟨rfl, rfl⟩) ?_
  rw [zs_4]
  refine ev_nm (M0 := M19.set (o) (.inr (10, zo o (ui (zi) 4 (nI ((H.length) + 1))) (zl)))) (fun M25 eM25 => ?_)
  have f26 : M25[o]? = some (.inr (10, zo o (ui (zi) 4 (nI ((H.length) + 1))) (zl))) := by rw [eM25]; exact ev_sg f20
  have f27 : M25[o + 2]? = some (.inl (0, 21, .inl (upd f H.length (nI (x.1))))) := by rw [eM25, ev_sn (by omega)]; exact f21
  have f28 : M25[o + 3]? = some (.inl (0, 21, .inl (upd kf H.length (nI k)))) := by rw [eM25, ev_sn (by omega)]; exact f22
  have f29 : M25[o + 4]? = some (.inl (1, 21, .inr (.inl (vp_updL g H.length (e2 x.2.1))))) := by rw [eM25, ev_sn (by omega)]; exact f23
  have f30 : M25[o + 5]? = some (.inl (1, 21, .inr (.inl (vp_updL h H.length (e2 x.2.2))))) := by rw [eM25, ev_sn (by omega)]; exact f24
  refine ev_vret dX11_remembers_148 rfl ⟨Nat.le_of_ble_eq_true rfl, Nat.le_of_ble_eq_true rfl⟩ ?_
  refine ⟨rfl, _, f26, by rw [List.length_append]; rfl, fun j hj => ui_ne hj, ⟨_, _, _, _, f27, f28, f29, f30, ?_, fun i hi => ?_⟩, ⟨by rw [eM25, eM19, eM13, eM7, eM1]; simp only [List.length_set], fun j hj1 hj2 => by rw [eM25, ev_sn (by omega), eM19, ev_sn (by omega), eM13, ev_sn (by omega), eM7, ev_sn (by omega), eM1, ev_sn (by omega)]⟩⟩
  · rw [hL_app, List.length_append, List.length_singleton]
    exact QP.push hL_len.symm (QP.of fun i hi => ⟨(hQ i hi).1, (hQ i hi).2.1, (hQ i hi).2.2.1⟩)
  · rw [upd_at]
    rw [List.length_append, List.length_singleton] at hi
    by_cases e : i = H.length
    · subst e; rw [if_pos rfl, kg_app_r]
    · rw [if_neg e, kg_app_l (by omega)]; exact (hQ i (by omega)).2.2.2

set_option maxHeartbeats 4000000 in
set_option maxRecDepth 100000 in
theorem c_R_rem_l {l : Launch} (hl : l.stackTraces = false)  (M0 : ev_M) (o : Nat) (zi : Nat → Int32) (zl : Nat → Int64) (x : Cf) (h3 : zi 3 = nI x.1) (h5 : zl 5 = e2 x.2.1) (h6 : zl 6 = e2 x.2.2) (H : Hs) (hH : H.length = 20) (h4 : zi 4 = nI H.length) (k : Nat) : ∀ (n9 : Nat) (i : Nat) (M : ev_M) (f : Nat → Int32) (kf : Nat → Int32) (g : Nat → Int64) (h : Nat → Int64), 1 ≤ i → i ≤ 20 → M[o]? = some (.inr (10, zo o zi zl)) → M[o + 2]? = some (.inl (0, 21, .inl f)) → M[o + 3]? = some (.inl (0, 21, .inl kf)) → M[o + 4]? = some (.inl (1, 21, .inr (.inl g))) → M[o + 5]? = some (.inl (1, 21, .inr (.inl h))) → FX o (o + 2) (o + 6) M0 M → (∀ j, j < i - 1 → (f j = nI (cg (hL H) (j + 1)).1 ∧ g j = e2 (cg (hL H) (j + 1)).2.1 ∧ h j = e2 (cg (hL H) (j + 1)).2.2 ∧ kf j = nI (kg H (j + 1)))) → (∀ j, i - 1 ≤ j → j < 20 → (f j = nI (cg (hL H) j).1 ∧ g j = e2 (cg (hL H) j).2.1 ∧ h j = e2 (cg (hL H) j).2.2 ∧ kf j = nI (kg H j))) → 20 - i < n9 → ev_ l m_X11_remembers 0 0 11 [some (.ref (o)), some (.int (nI k)), some (.int (nI i))] [] M (fun r M1 => r = .inl none ∧ ∃ zi', M1[o]? = some (.inr (10, zo o zi' zl)) ∧ zi' 4 = nI (rec H x k).length ∧ (∀ j, j ≠ 4 → zi' j = zi j) ∧ PH M1 o (rec H x k) ∧ FX o (o + 2) (o + 6) M0 M1) := by
  intro n9
  induction n9 with
  | zero => intro i M f kf g h hi1 hi hO hr2 hr3 hr4 hr5 hF hlo hhi hm9; exact absurd hm9 (by omega)
  | succ n9 ih =>
    intro i M f kf g h hi1 hi hO hr2 hr3 hr4 hr5 hF hlo hhi hm9
    refine ev_blk (B := [(.iload_n 2, 1), (.bipush 20, 2)]) (pe := 14) (ls' := [some (.ref (o)), some (.int (nI k)), some (.int (nI i))]) (st' := [.int (nI 20), .int (nI i)]) ⟨dX11_remembers_11, dX11_remembers_12, rfl⟩ rfl ?_
    refine ev_iN_ge dX11_remembers_14 (tgt := 79) (by decide) (by omega) (by omega) (fun q14 => ?_) (fun q14 => ?_)
    · refine ev_blk (B := [(.aload_n 0, 1), (.dup, 1)]) (pe := 81) (ls' := [some (.ref (o)), some (.int (nI k)), some (.int (nI i))]) (st' := [.ref (o), .ref (o)]) ⟨dX11_remembers_79, dX11_remembers_80, rfl⟩ rfl ?_
      refine ev_getf (v := .int (nI (H.length))) F_RX11_166 dX11_remembers_81 hO (congrArg (fun q => some (Value.int q)) h4) ?_
      refine ev_blk (B := [(.iconst 1, 1), (.isub, 1)]) (pe := 86) (ls' := [some (.ref (o)), some (.int (nI k)), some (.int (nI i))]) (st' := [.int (nI ((H.length) - 1)), .ref (o)]) ⟨dX11_remembers_84, dX11_remembers_85, rfl⟩ (by show some (([some (.ref (o)), some (.int (nI k)), some (.int (nI i))] : ev_L), ([.int ((nI (H.length)) - (nI 1)), .ref (o)] : List Value)) = _; rw [pk_sub (show 1 ≤ (H.length) by omega)]) ?_
      refine ev_put F_RX11_166 dX11_remembers_86 hO (Nat.le_of_ble_eq_true rfl) (fun _ _ => ⟨rfl, rfl⟩) ?_
      rw [zs_4]
      refine ev_nm (M0 := M.set (o) (.inr (10, zo o (ui (zi) 4 (nI ((H.length) - 1))) (zl)))) (fun M1 eM1 => ?_)
      have f2 : M1[o]? = some (.inr (10, zo o (ui (zi) 4 (nI ((H.length) - 1))) (zl))) := by rw [eM1]; exact ev_sg hO
      have f3 : M1[o + 2]? = some (.inl (0, 21, .inl (f))) := by rw [eM1, ev_sn (by omega)]; exact hr2
      have f4 : M1[o + 3]? = some (.inl (0, 21, .inl (kf))) := by rw [eM1, ev_sn (by omega)]; exact hr3
      have f5 : M1[o + 4]? = some (.inl (1, 21, .inr (.inl (g)))) := by rw [eM1, ev_sn (by omega)]; exact hr4
      have f6 : M1[o + 5]? = some (.inl (1, 21, .inr (.inl (h)))) := by rw [eM1, ev_sn (by omega)]; exact hr5
      have W7 : FX o (o + 2) (o + 6) M M1 := ⟨by rw [eM1]; simp only [List.length_set], fun j hj1 hj2 => by rw [eM1, ev_sn (by omega)]⟩
      refine ev_fgt (ls' := [some (.ref (o)), some (.int (nI k)), none]) ⟨Or.inr rfl, Or.inr rfl, Or.inl rfl, trivial⟩ ?_
      have e7 : i = 20 := by omega
      subst e7
      refine ev_mono (fun r M9 hq => ?_) (c_R_rem_t hl o _ zl f2 x h3 h5 h6 H.tail (by rw [List.length_tail]; omega) (by rw [List.length_tail]; rfl) f kf g h f3 f4 f5 f6 (fun j hj => ?_) k none)
      · obtain ⟨q1, zi2, q2, q3, q4, q5, q6⟩ := hq
        rw [rec_ge (by omega)]
        exact ⟨q1, zi2, q2, q3, fun j hj => (q4 j hj).trans (ui_ne hj), q5, (hF.tr W7).tr q6⟩
      · rw [hL_tail, cg_tail, kg_tail]
        rw [List.length_tail] at hj
        exact hlo j (by omega)
    · refine ev_blk (B := [(.aload_n 0, 1)]) (pe := 18) (ls' := [some (.ref (o)), some (.int (nI k)), some (.int (nI i))]) (st' := [.ref (o)]) ⟨dX11_remembers_17, rfl⟩ rfl ?_
      refine ev_getf (v := .ref (o + 2)) F_RX11_13 dX11_remembers_18 hO rfl ?_
      refine ev_blk (B := [(.iload_n 2, 1), (.iconst 1, 1), (.isub, 1), (.aload_n 0, 1)]) (pe := 25) (ls' := [some (.ref (o)), some (.int (nI k)), some (.int (nI i))]) (st' := [.ref (o), .int (nI (i - 1)), .ref (o + 2)]) ⟨dX11_remembers_21, dX11_remembers_22, dX11_remembers_23, dX11_remembers_24, rfl⟩ (by show some (([some (.ref (o)), some (.int (nI k)), some (.int (nI i))] : ev_L), ([.ref (o), .int ((nI i) - (nI 1)), .ref (o + 2)] : List Value)) = _; rw [pk_sub (show 1 ≤ i by omega)]) ?_
      refine ev_getf (v := .ref (o + 2)) F_RX11_13 dX11_remembers_25 hO rfl ?_
      refine ev_blk (B := [(.iload_n 2, 1)]) (pe := 29) (ls' := [some (.ref (o)), some (.int (nI k)), some (.int (nI i))]) (st' := [.int (nI i), .ref (o + 2), .int (nI (i - 1)), .ref (o + 2)]) ⟨dX11_remembers_28, rfl⟩ rfl ?_
      refine ev_iald dX11_remembers_29 hr2 (vp_in_nI (show i < 21 by omega) (by omega)) ?_
      rw [nI_clamp (show i < 2 ^ 31 by omega)]
      refine ev_iast dX11_remembers_30 hr2 (vp_in_nI (show i - 1 < 21 by omega) (by omega)) ?_
      rw [nI_clamp (show i - 1 < 2 ^ 31 by omega)]
      refine ev_nm (M0 := M.set (o + 2) (.inl (0, 21, .inl (upd f (i - 1) (f i))))) (fun M8 eM8 => ?_)
      have f9 : M8[o]? = some (.inr (10, zo o (zi) (zl))) := by rw [eM8, ev_sn (by omega)]; exact hO
      have f10 : M8[o + 2]? = some (.inl (0, 21, .inl (upd f (i - 1) (f i)))) := by rw [eM8]; exact ev_sg hr2
      have f11 : M8[o + 3]? = some (.inl (0, 21, .inl (kf))) := by rw [eM8, ev_sn (by omega)]; exact hr3
      have f12 : M8[o + 4]? = some (.inl (1, 21, .inr (.inl (g)))) := by rw [eM8, ev_sn (by omega)]; exact hr4
      have f13 : M8[o + 5]? = some (.inl (1, 21, .inr (.inl (h)))) := by rw [eM8, ev_sn (by omega)]; exact hr5
      refine ev_blk (B := [(.aload_n 0, 1)]) (pe := 32) (ls' := [some (.ref (o)), some (.int (nI k)), some (.int (nI i))]) (st' := [.ref (o)]) ⟨dX11_remembers_31, rfl⟩ rfl ?_
      refine ev_getf (v := .ref (o + 4)) F_RX11_19 dX11_remembers_32 f9 rfl ?_
      refine ev_blk (B := [(.iload_n 2, 1), (.iconst 1, 1), (.isub, 1), (.aload_n 0, 1)]) (pe := 39) (ls' := [some (.ref (o)), some (.int (nI k)), some (.int (nI i))]) (st' := [.ref (o), .int (nI (i - 1)), .ref (o + 4)]) ⟨dX11_remembers_35, dX11_remembers_36, dX11_remembers_37, dX11_remembers_38, rfl⟩ (by show some (([some (.ref (o)), some (.int (nI k)), some (.int (nI i))] : ev_L), ([.ref (o), .int ((nI i) - (nI 1)), .ref (o + 4)] : List Value)) = _; rw [pk_sub (show 1 ≤ i by omega)]) ?_
      refine ev_getf (v := .ref (o + 4)) F_RX11_19 dX11_remembers_39 f9 rfl ?_
      refine ev_blk (B := [(.iload_n 2, 1)]) (pe := 43) (ls' := [some (.ref (o)), some (.int (nI k)), some (.int (nI i))]) (st' := [.int (nI i), .ref (o + 4), .int (nI (i - 1)), .ref (o + 4)]) ⟨dX11_remembers_42, rfl⟩ rfl ?_
      refine ev_lald dX11_remembers_43 f12 (vp_in_nI (show i < 21 by omega) (by omega)) ?_
      rw [nI_clamp (show i < 2 ^ 31 by omega)]
      refine ev_last dX11_remembers_44 f12 (vp_in_nI (show i - 1 < 21 by omega) (by omega)) ?_
      rw [nI_clamp (show i - 1 < 2 ^ 31 by omega)]
      refine ev_nm (M0 := M8.set (o + 4) (.inl (1, 21, .inr (.inl (vp_updL g (i - 1) (g i)))))) (fun M14 eM14 => ?_)
      have f15 : M14[o]? = some (.inr (10, zo o (zi) (zl))) := by rw [eM14, ev_sn (by omega)]; exact f9
      have f16 : M14[o + 2]? = some (.inl (0, 21, .inl (upd f (i - 1) (f i)))) := by rw [eM14, ev_sn (by omega)]; exact f10
      have f17 : M14[o + 3]? = some (.inl (0, 21, .inl (kf))) := by rw [eM14, ev_sn (by omega)]; exact f11
      have f18 : M14[o + 4]? = some (.inl (1, 21, .inr (.inl (vp_updL g (i - 1) (g i))))) := by rw [eM14]; exact ev_sg f12
      have f19 : M14[o + 5]? = some (.inl (1, 21, .inr (.inl (h)))) := by rw [eM14, ev_sn (by omega)]; exact f13
      refine ev_blk (B := [(.aload_n 0, 1)]) (pe := 46) (ls' := [some (.ref (o)), some (.int (nI k)), some (.int (nI i))]) (st' := [.ref (o)]) ⟨dX11_remembers_45, rfl⟩ rfl ?_
      refine ev_getf (v := .ref (o + 5)) F_RX11_23 dX11_remembers_46 f15 rfl ?_
      refine ev_blk (B := [(.iload_n 2, 1), (.iconst 1, 1), (.isub, 1), (.aload_n 0, 1)]) (pe := 53) (ls' := [some (.ref (o)), some (.int (nI k)), some (.int (nI i))]) (st' := [.ref (o), .int (nI (i - 1)), .ref (o + 5)]) ⟨dX11_remembers_49, dX11_remembers_50, dX11_remembers_51, dX11_remembers_52, rfl⟩ (by show some (([some (.ref (o)), some (.int (nI k)), some (.int (nI i))] : ev_L), ([.ref (o), .int ((nI i) - (nI 1)), .ref (o + 5)] : List Value)) = _; rw [pk_sub (show 1 ≤ i by omega)]) ?_
      refine ev_getf (v := .ref (o + 5)) F_RX11_23 dX11_remembers_53 f15 rfl ?_
      refine ev_blk (B := [(.iload_n 2, 1)]) (pe := 57) (ls' := [some (.ref (o)), some (.int (nI k)), some (.int (nI i))]) (st' := [.int (nI i), .ref (o + 5), .int (nI (i - 1)), .ref (o + 5)]) ⟨dX11_remembers_56, rfl⟩ rfl ?_
      refine ev_lald dX11_remembers_57 f19 (vp_in_nI (show i < 21 by omega) (by omega)) ?_
      rw [nI_clamp (show i < 2 ^ 31 by omega)]
      refine ev_last dX11_remembers_58 f19 (vp_in_nI (show i - 1 < 21 by omega) (by omega)) ?_
      rw [nI_clamp (show i - 1 < 2 ^ 31 by omega)]
      refine ev_nm (M0 := M14.set (o + 5) (.inl (1, 21, .inr (.inl (vp_updL h (i - 1) (h i)))))) (fun M20 eM20 => ?_)
      have f21 : M20[o]? = some (.inr (10, zo o (zi) (zl))) := by rw [eM20, ev_sn (by omega)]; exact f15
      have f22 : M20[o + 2]? = some (.inl (0, 21, .inl (upd f (i - 1) (f i)))) := by rw [eM20, ev_sn (by omega)]; exact f16
      have f23 : M20[o + 3]? = some (.inl (0, 21, .inl (kf))) := by rw [eM20, ev_sn (by omega)]; exact f17
      have f24 : M20[o + 4]? = some (.inl (1, 21, .inr (.inl (vp_updL g (i - 1) (g i))))) := by rw [eM20, ev_sn (by omega)]; exact f18
      have f25 : M20[o + 5]? = some (.inl (1, 21, .inr (.inl (vp_updL h (i - 1) (h i))))) := by rw [eM20]; exact ev_sg f19
      refine ev_blk (B := [(.aload_n 0, 1)]) (pe := 60) (ls' := [some (.ref (o)), some (.int (nI k)), some (.int (nI i))]) (st' := [.ref (o)]) ⟨dX11_remembers_59, rfl⟩ rfl ?_
      refine ev_getf (v := .ref (o + 3)) F_RX11_16 dX11_remembers_60 f21 rfl ?_
      refine ev_blk (B := [(.iload_n 2, 1), (.iconst 1, 1), (.isub, 1), (.aload_n 0, 1)]) (pe := 67) (ls' := [some (.ref (o)), some (.int (nI k)), some (.int (nI i))]) (st' := [.ref (o), .int (nI (i - 1)), .ref (o + 3)]) ⟨dX11_remembers_63, dX11_remembers_64, dX11_remembers_65, dX11_remembers_66, rfl⟩ (by show some (([some (.ref (o)), some (.int (nI k)), some (.int (nI i))] : ev_L), ([.ref (o), .int ((nI i) - (nI 1)), .ref (o + 3)] : List Value)) = _; rw [pk_sub (show 1 ≤ i by omega)]) ?_
      refine ev_getf (v := .ref (o + 3)) F_RX11_16 dX11_remembers_67 f21 rfl ?_
      refine ev_blk (B := [(.iload_n 2, 1)]) (pe := 71) (ls' := [some (.ref (o)), some (.int (nI k)), some (.int (nI i))]) (st' := [.int (nI i), .ref (o + 3), .int (nI (i - 1)), .ref (o + 3)]) ⟨dX11_remembers_70, rfl⟩ rfl ?_
      refine ev_iald dX11_remembers_71 f23 (vp_in_nI (show i < 21 by omega) (by omega)) ?_
      rw [nI_clamp (show i < 2 ^ 31 by omega)]
      refine ev_iast dX11_remembers_72 f23 (vp_in_nI (show i - 1 < 21 by omega) (by omega)) ?_
      rw [nI_clamp (show i - 1 < 2 ^ 31 by omega)]
      refine ev_nm (M0 := M20.set (o + 3) (.inl (0, 21, .inl (upd kf (i - 1) (kf i))))) (fun M26 eM26 => ?_)
      have f27 : M26[o]? = some (.inr (10, zo o (zi) (zl))) := by rw [eM26, ev_sn (by omega)]; exact f21
      have f28 : M26[o + 2]? = some (.inl (0, 21, .inl (upd f (i - 1) (f i)))) := by rw [eM26, ev_sn (by omega)]; exact f22
      have f29 : M26[o + 3]? = some (.inl (0, 21, .inl (upd kf (i - 1) (kf i)))) := by rw [eM26]; exact ev_sg f23
      have f30 : M26[o + 4]? = some (.inl (1, 21, .inr (.inl (vp_updL g (i - 1) (g i))))) := by rw [eM26, ev_sn (by omega)]; exact f24
      have f31 : M26[o + 5]? = some (.inl (1, 21, .inr (.inl (vp_updL h (i - 1) (h i))))) := by rw [eM26, ev_sn (by omega)]; exact f25
      refine ev_blk (B := [(.iinc 2 1, 3)]) (pe := 76) (ls' := [some (.ref (o)), some (.int (nI k)), some (.int (nI (i + 1)))]) (st' := []) ⟨dX11_remembers_73, rfl⟩ (by show some (([some (.ref (o)), some (.int (nI k)), some (.int ((nI i) + Int32.ofInt (1)))] : ev_L), ([] : List Value)) = _; rw [ev_inc1 i]) ?_
      refine ev_goto (tgt := 11) dX11_remembers_76 (by decide) ?_
      refine ih (i + 1) _ _ _ _ _ (by omega) (by omega) f27 f28 f29 f30 f31 (hF.tr ⟨by rw [eM26, eM20, eM14, eM8]; simp only [List.length_set], fun j hj1 hj2 => by rw [eM26, ev_sn (by omega), eM20, ev_sn (by omega), eM14, ev_sn (by omega), eM8, ev_sn (by omega)]⟩) (fun j hj => ?_) (fun j h1 h2 => ?_) (by omega)
      · rw [upd_at, upd_at, updL_at, updL_at]
        by_cases e : j = i - 1
        · subst e
          rw [if_pos rfl, if_pos rfl, if_pos rfl, if_pos rfl, show i - 1 + 1 = i by omega]
          exact hhi i (by omega) (by omega)
        · rw [if_neg e, if_neg e, if_neg e, if_neg e]
          exact hlo j (by omega)
      · rw [upd_at, upd_at, updL_at, updL_at, if_neg (by omega), if_neg (by omega), if_neg (by omega), if_neg (by omega)]
        exact hhi j (by omega) h2

set_option maxHeartbeats 4000000 in
set_option maxRecDepth 100000 in
theorem c_R_remembers {l : Launch} (hl : l.stackTraces = false) {M : ev_M} (o : Nat) (zi : Nat → Int32) (zl : Nat → Int64) (hO : M[o]? = some (.inr (10, zo o zi zl))) (x : Cf) (h3 : zi 3 = nI x.1) (h5 : zl 5 = e2 x.2.1) (h6 : zl 6 = e2 x.2.2) (H : Hs) (hH : H.length ≤ 20) (h4 : zi 4 = nI H.length) (hPH : PH M o H) (k : Nat) : ev_Mt l m_X11_remembers [.ref (o), .int (nI k)] M (fun r M1 => r = .inl none ∧ ∃ zi', M1[o]? = some (.inr (10, zo o zi' zl)) ∧ zi' 4 = nI (rec H x k).length ∧ (∀ j, j ≠ 4 → zi' j = zi j) ∧ PH M1 o (rec H x k) ∧ FX o (o + 2) (o + 6) M M1) := by
  obtain ⟨f, kf, g, h, hr2, hr3, hr4, hr5, hQ0, hK0⟩ := hPH
  refine ev_body hl rfl (by decide +kernel) (Nat.le_of_ble_eq_true rfl) ?_
  show ev_ l m_X11_remembers 0 0 0 [some (.ref (o)), some (.int (nI k)), none] [] M _
  refine ev_blk (B := [(.aload_n 0, 1)]) (pe := 1) (ls' := [some (.ref (o)), some (.int (nI k)), none]) (st' := [.ref (o)]) ⟨dX11_remembers_0, rfl⟩ rfl ?_
  refine ev_getf (v := .int (nI (H.length))) F_RX11_166 dX11_remembers_1 hO (congrArg (fun q => some (Value.int q)) h4) ?_
  refine ev_blk (B := [(.bipush 20, 2)]) (pe := 6) (ls' := [some (.ref (o)), some (.int (nI k)), none]) (st' := [.int (nI 20), .int (nI (H.length))]) ⟨dX11_remembers_4, rfl⟩ rfl ?_
  refine ev_iN_ne dX11_remembers_6 (tgt := 89) (by decide) (by omega) (by omega) (fun q6 => ?_) (fun q6 => ?_)
  · rw [rec_lt (show H.length < 20 by omega)]
    exact c_R_rem_t hl o zi zl hO x h3 h5 h6 H (by omega) h4 f kf g h hr2 hr3 hr4 hr5 (fun j hj => ⟨(hQ0.at (by omega)).1, (hQ0.at (by omega)).2.1, (hQ0.at (by omega)).2.2, hK0 j hj⟩) k none
  · refine ev_blk (B := [(.iconst 1, 1), (.istore_n 2, 1)]) (pe := 11) (ls' := [some (.ref (o)), some (.int (nI k)), some (.int (nI 1))]) (st' := []) ⟨dX11_remembers_9, dX11_remembers_10, rfl⟩ rfl ?_
    exact c_R_rem_l hl M o zi zl x h3 h5 h6 H q6 h4 k _ 1 M f kf g h (Nat.le_refl _) (by omega) hO hr2 hr3 hr4 hr5 FX.rf (fun j hj => absurd hj (by omega)) (fun j _ hj => ⟨(hQ0.at (by omega)).1, (hQ0.at (by omega)).2.1, (hQ0.at (by omega)).2.2, hK0 j (by omega)⟩) (Nat.lt_succ_self _)

set_option maxHeartbeats 4000000 in
set_option maxRecDepth 100000 in
theorem r_lose {l : Launch} (hl : l.stackTraces = false) {M : ev_M} (o : Nat) (S : St) (hS : okS S) (hT10 : S.T.length ≤ 10) (hG3 : S.G.length ≤ 3) (hH20 : S.H.length ≤ 20) (zi : Nat → Int32) (zl : Nat → Int64) (hR : RR M o S zi zl) (a : Int32) (b : Int32) : ev_Mt l m_X11_lose [.ref (o), .int (a), .int (b)] M (fun r M1 => r = .inl (some (.int (sLos S a b).1.2)) ∧ ∃ zi' zl', RR M1 o (sLos S a b).2 zi' zl' ∧ zi' 0 = nI (sLos S a b).1.1 ∧ Fr o (o + 31) M M1) := by
  rcases inR_c a 2 (by omega) with ⟨k, hk, rfl⟩ | ia
  · have jk : inR (nI k) 2 = true := inR_n hk (by omega)
    have tk : (nI k).toNatClampNeg = k := nI_clamp (by omega)
    have hcw := cw_ok hS.x k
    have hcw9 : (cw S.x k).length ≤ 10 := hcw.2
    have hcv := cw_ok hS.x (1 - k)
    have hcv9 : (cw S.x (1 - k)).length ≤ 10 := hcv.2
    rcases inR_c b ((cw S.x k).length) (by omega) with ⟨j, hj, rfl⟩ | ib
    · have jj : inR (nI j) ((cw S.x k).length) = true := inR_n hj (by omega)
      have tj : (nI j).toNatClampNeg = j := nI_clamp (by omega)
      refine ev_body hl rfl (by decide +kernel) (Nat.le_of_ble_eq_true rfl) ?_
      show ev_ l m_X11_lose 0 0 0 [some (.ref (o)), some (.int (nI k)), some (.int (nI j)), none] [] M _
      refine ev_blk (B := [(.iload_n 1, 1)]) (pe := 1) (ls' := [some (.ref (o)), some (.int (nI k)), some (.int (nI j)), none]) (st' := [.int (nI k)]) ⟨dX11_lose_0, rfl⟩ rfl ?_
      refine ev_cSv Y_X11_isChannel L_RX11_138 dX11_lose_1 ⟨Nat.le_of_ble_eq_true rfl, Nat.le_of_ble_eq_true rfl, Nat.le_of_ble_eq_true rfl, Nat.le_of_ble_eq_true rfl, Nat.le_of_ble_eq_true rfl⟩ (as := [.int (nI k)]) rfl rfl (c_R_isChannel hl (nI k)) ?_
      refine ev_ifB_ne dX11_lose_4 (tgt := 13) (by decide) (fun q4 => ?_) (fun q4 => ?_)
      · refine ev_blk (B := [(.iload_n 2, 1), (.iconst 0, 1), (.aload_n 0, 1), (.iload_n 1, 1)]) (pe := 17) (ls' := [some (.ref (o)), some (.int (nI k)), some (.int (nI j)), none]) (st' := [.int (nI k), .ref (o), .int (nI 0), .int (nI j)]) ⟨dX11_lose_13, dX11_lose_14, dX11_lose_15, dX11_lose_16, rfl⟩ rfl ?_
        refine ev_cVv Y_X11_wordOf L_RX11_172 dX11_lose_17 ⟨Nat.le_of_ble_eq_true rfl, Nat.le_of_ble_eq_true rfl, Nat.le_of_ble_eq_true rfl, Nat.le_of_ble_eq_true rfl, Nat.le_of_ble_eq_true rfl⟩ hR.z (as := [.int (nI k)]) rfl rfl (c_R_wordOf hl o (zi) (zl) hR.z S.x hR.p.2.2.2.1 hR.p.2.2.2.2.1 k hk) ?_
        refine ev_cSv Y_X11_lengthOf L_RX11_111 dX11_lose_20 ⟨Nat.le_of_ble_eq_true rfl, Nat.le_of_ble_eq_true rfl, Nat.le_of_ble_eq_true rfl, Nat.le_of_ble_eq_true rfl, Nat.le_of_ble_eq_true rfl⟩ (as := [.long (e2 (cw S.x k))]) rfl rfl (c_R_lengthOf hl ((cw S.x k)) hcw.1 (Nat.le_trans hcw.2 (by decide))) ?_
        refine ev_blk (B := [(.iconst 1, 1), (.isub, 1)]) (pe := 25) (ls' := [some (.ref (o)), some (.int (nI k)), some (.int (nI j)), none]) (st' := [.int (nI ((((cw S.x k)).length) - 1)), .int (nI 0), .int (nI j)]) ⟨dX11_lose_23, dX11_lose_24, rfl⟩ (by show some (([some (.ref (o)), some (.int (nI k)), some (.int (nI j)), none] : ev_L), ([.int ((nI (((cw S.x k)).length)) - (nI 1)), .int (nI 0), .int (nI j)] : List Value)) = _; rw [pk_sub (show 1 ≤ (((cw S.x k)).length) by omega)]) ?_
        refine ev_cSv Y_X11_isBetween L_RX11_134 dX11_lose_25 ⟨Nat.le_of_ble_eq_true rfl, Nat.le_of_ble_eq_true rfl, Nat.le_of_ble_eq_true rfl, Nat.le_of_ble_eq_true rfl, Nat.le_of_ble_eq_true rfl⟩ (as := [.int (nI j), .int (nI 0), .int (nI ((((cw S.x k)).length) - 1))]) rfl rfl (c_R_isBT hl _ _ _ (nI_le (Nat.zero_le _) (by omega)) (nI_le (by omega) (by omega))) ?_
        refine ev_ifB_ne dX11_lose_28 (tgt := 37) (by decide) (fun q28 => ?_) (fun q28 => ?_)
        · refine ev_blk (B := [(.aload_n 0, 1), (.iconst 0, 1)]) (pe := 39) (ls' := [some (.ref (o)), some (.int (nI k)), some (.int (nI j)), none]) (st' := [.int (nI 0), .ref (o)]) ⟨dX11_lose_37, dX11_lose_38, rfl⟩ rfl ?_
          refine ev_put F_RX11_106 dX11_lose_39 hR.z (Nat.le_of_ble_eq_true rfl) (fun _ _ => ⟨rfl, rfl⟩) ?_
          rw [zs_0]
          refine ev_nm (M0 := M.set (o) (.inr (10, zo o (ui (zi) 0 (nI 0)) (zl)))) (fun M1 eM1 => ?_)
          have f2 : M1[o]? = some (.inr (10, zo o (ui (zi) 0 (nI 0)) (zl))) := by rw [eM1]; exact ev_sg hR.z
          refine ev_blk (B := [(.aload_n 0, 1), (.iconst 1, 1)]) (pe := 44) (ls' := [some (.ref (o)), some (.int (nI k)), some (.int (nI j)), none]) (st' := [.int (nI 1), .ref (o)]) ⟨dX11_lose_42, dX11_lose_43, rfl⟩ rfl ?_
          have W3 : FX o (o + 31) (o + 31) M M1 := ⟨by rw [eM1]; simp only [List.length_set], fun j hj1 hj2 => by rw [eM1, ev_sn (by omega)]⟩
          refine ev_cVn Y_X11_remembers L_RX11_208 dX11_lose_44 ⟨Nat.le_of_ble_eq_true rfl, Nat.le_of_ble_eq_true rfl, Nat.le_of_ble_eq_true rfl, Nat.le_of_ble_eq_true rfl, Nat.le_of_ble_eq_true rfl⟩ f2 (as := [.int (nI 1)]) rfl rfl (c_R_remembers hl o (ui (zi) 0 (nI 0)) (zl) f2 S.x hR.p.2.1 hR.p.2.2.2.1 hR.p.2.2.2.2.1 S.H hH20 hR.p.2.2.1 (hR.H.fx W3 (by omega)) 1) (fun M4 hL4 hB4 => ?_)
          obtain ⟨R5i, R5z, R54, R5K, R5H, R5F⟩ := hB4
          refine ev_blk (B := [(.aload_n 0, 1), (.iload_n 1, 1)]) (pe := 49) (ls' := [some (.ref (o)), some (.int (nI k)), some (.int (nI j)), none]) (st' := [.int (nI k), .ref (o)]) ⟨dX11_lose_47, dX11_lose_48, rfl⟩ rfl ?_
          refine ev_cVv Y_X11_wordOf L_RX11_172 dX11_lose_49 ⟨Nat.le_of_ble_eq_true rfl, Nat.le_of_ble_eq_true rfl, Nat.le_of_ble_eq_true rfl, Nat.le_of_ble_eq_true rfl, Nat.le_of_ble_eq_true rfl⟩ R5z (as := [.int (nI k)]) rfl rfl (c_R_wordOf hl o (R5i) (zl) R5z S.x hR.p.2.2.2.1 hR.p.2.2.2.2.1 k hk) ?_
          refine ev_blk (B := [(.iload_n 2, 1)]) (pe := 53) (ls' := [some (.ref (o)), some (.int (nI k)), some (.int (nI j)), none]) (st' := [.int (nI j), .long (e2 (cw S.x k))]) ⟨dX11_lose_52, rfl⟩ rfl ?_
          refine ev_cSv Y_X11_letterAt L_RX11_119 dX11_lose_53 ⟨Nat.le_of_ble_eq_true rfl, Nat.le_of_ble_eq_true rfl, Nat.le_of_ble_eq_true rfl, Nat.le_of_ble_eq_true rfl, Nat.le_of_ble_eq_true rfl⟩ (as := [.long (e2 (cw S.x k)), .int (nI j)]) rfl rfl (c_R_letterAt hl ((cw S.x k)) hcw.1 (Nat.le_trans hcw.2 (by decide)) j hj) ?_
          refine ev_blk (B := [(.istore_n 3, 1), (.aload_n 0, 1), (.iload_n 1, 1), (.aload_n 0, 1), (.iload_n 1, 1)]) (pe := 61) (ls' := [some (.ref (o)), some (.int (nI k)), some (.int (nI j)), some (.int (nI (((cw S.x k))[j])))]) (st' := [.int (nI k), .ref (o), .int (nI k), .ref (o)]) ⟨dX11_lose_56, dX11_lose_57, dX11_lose_58, dX11_lose_59, dX11_lose_60, rfl⟩ rfl ?_
          refine ev_cVv Y_X11_wordOf L_RX11_172 dX11_lose_61 ⟨Nat.le_of_ble_eq_true rfl, Nat.le_of_ble_eq_true rfl, Nat.le_of_ble_eq_true rfl, Nat.le_of_ble_eq_true rfl, Nat.le_of_ble_eq_true rfl⟩ R5z (as := [.int (nI k)]) rfl rfl (c_R_wordOf hl o (R5i) (zl) R5z S.x hR.p.2.2.2.1 hR.p.2.2.2.2.1 k hk) ?_
          refine ev_blk (B := [(.iload_n 2, 1)]) (pe := 65) (ls' := [some (.ref (o)), some (.int (nI k)), some (.int (nI j)), some (.int (nI (((cw S.x k))[j])))]) (st' := [.int (nI j), .long (e2 (cw S.x k)), .int (nI k), .ref (o)]) ⟨dX11_lose_64, rfl⟩ rfl ?_
          refine ev_cSv Y_X11_without L_RX11_215 dX11_lose_65 ⟨Nat.le_of_ble_eq_true rfl, Nat.le_of_ble_eq_true rfl, Nat.le_of_ble_eq_true rfl, Nat.le_of_ble_eq_true rfl, Nat.le_of_ble_eq_true rfl⟩ (as := [.long (e2 (cw S.x k)), .int (nI j)]) rfl rfl (c_R_without hl ((cw S.x k)) hcw.1 (Nat.le_trans hcw.2 (by decide)) j hj) ?_
          refine ev_cV0 Y_X11_setsWord L_RX11_175 dX11_lose_68 ⟨Nat.le_of_ble_eq_true rfl, Nat.le_of_ble_eq_true rfl, Nat.le_of_ble_eq_true rfl, Nat.le_of_ble_eq_true rfl, Nat.le_of_ble_eq_true rfl⟩ R5z (as := [.int (nI k), .long (e2 ((cw S.x k).eraseIdx j))]) rfl rfl (c_R_setsWord hl o (R5i) (zl) R5z k hk (((cw S.x k).eraseIdx j))) ?_
          obtain ⟨zl2, hz2⟩ : ∃ z, z = (if k = 0 then ul (zl) 5 (e2 (((cw S.x k).eraseIdx j))) else ul (zl) 6 (e2 (((cw S.x k).eraseIdx j)))) := ⟨_, rfl⟩
          rw [← hz2]
          refine ev_nm (M0 := M4.set o (.inr (10, zo o (R5i) zl2))) (fun Mf eMf => ?_)
          have ff : Mf[o]? = some (.inr (10, zo o (R5i) zl2)) := by rw [eMf]; exact ev_sg R5z
          obtain ⟨z25, z26, z2n⟩ := sw_zl hz2 hR.p.2.2.2.1 hR.p.2.2.2.2.1
          refine ev_blk (B := [(.iload_n 3, 1)]) (pe := 72) (ls' := [some (.ref (o)), some (.int (nI k)), some (.int (nI j)), some (.int (nI (((cw S.x k))[j])))]) (st' := [.int (nI (((cw S.x k))[j]))]) ⟨dX11_lose_71, rfl⟩ rfl ?_
          refine ev_iret dX11_lose_72 rfl (rfl) ⟨Nat.le_of_ble_eq_true rfl, Nat.le_of_ble_eq_true rfl⟩ ?_
          have W6 : FX o (o + 31) (o + 31) M4 Mf := ⟨by rw [eMf]; simp only [List.length_set], fun j hj1 hj2 => by rw [eMf, ev_sn (by omega)]⟩
          have e9 : sLos S (nI k) (nI j) = ((0, nI ((cw S.x k).getD j 0)), St.mk S.T (cset S.x k ((cw S.x k).eraseIdx j)) S.G (rec S.H S.x 1) S.n S.t S.f S.tk S.T9 S.x9 S.G9) := by simp [sLos, jk, tk, jj, tj]
          rw [e9]
          exact ⟨(by rw [gd_at hj]), _, _, hR.xh ff (((W3.em (by omega)).tr (R5F.to (by omega) (by omega))).tr (W6.em (by omega))) (R5H.fx W6 (by omega)) (sw_3 ((R5K 3 (by decide)).trans hR.p.2.1)) R54 z25 z26 (fun q hq => (R5K q (nm hq (by decide))).trans (ui_ne (nm hq (by decide)))) (fun q hq => z2n q (nm hq (by decide)) (nm hq (by decide))), (R5K 0 (by decide)), (FX.fr (lo := o + 1) (hi := o + 31) (((W3.to (by omega) (by omega)).tr (R5F.to (by omega) (by omega))).tr (W6.to (by omega) (by omega))) (by omega) (by omega))⟩
        · exact absurd q28 (by decide)
      · exact absurd (jk.symm.trans q4) (by decide)
    · have ib9 := ib
      refine ev_body hl rfl (by decide +kernel) (Nat.le_of_ble_eq_true rfl) ?_
      show ev_ l m_X11_lose 0 0 0 [some (.ref (o)), some (.int (nI k)), some (.int (b)), none] [] M _
      refine ev_blk (B := [(.iload_n 1, 1)]) (pe := 1) (ls' := [some (.ref (o)), some (.int (nI k)), some (.int (b)), none]) (st' := [.int (nI k)]) ⟨dX11_lose_0, rfl⟩ rfl ?_
      refine ev_cSv Y_X11_isChannel L_RX11_138 dX11_lose_1 ⟨Nat.le_of_ble_eq_true rfl, Nat.le_of_ble_eq_true rfl, Nat.le_of_ble_eq_true rfl, Nat.le_of_ble_eq_true rfl, Nat.le_of_ble_eq_true rfl⟩ (as := [.int (nI k)]) rfl rfl (c_R_isChannel hl (nI k)) ?_
      refine ev_ifB_ne dX11_lose_4 (tgt := 13) (by decide) (fun q4 => ?_) (fun q4 => ?_)
      · refine ev_blk (B := [(.iload_n 2, 1), (.iconst 0, 1), (.aload_n 0, 1), (.iload_n 1, 1)]) (pe := 17) (ls' := [some (.ref (o)), some (.int (nI k)), some (.int (b)), none]) (st' := [.int (nI k), .ref (o), .int (nI 0), .int (b)]) ⟨dX11_lose_13, dX11_lose_14, dX11_lose_15, dX11_lose_16, rfl⟩ rfl ?_
        refine ev_cVv Y_X11_wordOf L_RX11_172 dX11_lose_17 ⟨Nat.le_of_ble_eq_true rfl, Nat.le_of_ble_eq_true rfl, Nat.le_of_ble_eq_true rfl, Nat.le_of_ble_eq_true rfl, Nat.le_of_ble_eq_true rfl⟩ hR.z (as := [.int (nI k)]) rfl rfl (c_R_wordOf hl o (zi) (zl) hR.z S.x hR.p.2.2.2.1 hR.p.2.2.2.2.1 k hk) ?_
        refine ev_cSv Y_X11_lengthOf L_RX11_111 dX11_lose_20 ⟨Nat.le_of_ble_eq_true rfl, Nat.le_of_ble_eq_true rfl, Nat.le_of_ble_eq_true rfl, Nat.le_of_ble_eq_true rfl, Nat.le_of_ble_eq_true rfl⟩ (as := [.long (e2 (cw S.x k))]) rfl rfl (c_R_lengthOf hl ((cw S.x k)) hcw.1 (Nat.le_trans hcw.2 (by decide))) ?_
        refine ev_blk (B := [(.iconst 1, 1), (.isub, 1)]) (pe := 25) (ls' := [some (.ref (o)), some (.int (nI k)), some (.int (b)), none]) (st' := [.int ((nI (((cw S.x k)).length)) - (nI 1)), .int (nI 0), .int (b)]) ⟨dX11_lose_23, dX11_lose_24, rfl⟩ rfl ?_
        refine ev_cSv Y_X11_isBetween L_RX11_134 dX11_lose_25 ⟨Nat.le_of_ble_eq_true rfl, Nat.le_of_ble_eq_true rfl, Nat.le_of_ble_eq_true rfl, Nat.le_of_ble_eq_true rfl, Nat.le_of_ble_eq_true rfl⟩ (as := [.int (b), .int (nI 0), .int ((nI (((cw S.x k)).length)) - (nI 1))]) rfl rfl (c_R_isBF hl _ _ _ (isb_no (by omega) ib)) ?_
        refine ev_ifB_ne dX11_lose_28 (tgt := 37) (by decide) (fun q28 => ?_) (fun q28 => ?_)
        · exact absurd q28 (by decide)
        · refine ev_blk (B := [(.aload_n 0, 1), (.iconst 2, 1)]) (pe := 33) (ls' := [some (.ref (o)), some (.int (nI k)), some (.int (b)), none]) (st' := [.int (nI 2), .ref (o)]) ⟨dX11_lose_31, dX11_lose_32, rfl⟩ rfl ?_
          refine ev_cVv Y_X11_fails L_RX11_144 dX11_lose_33 ⟨Nat.le_of_ble_eq_true rfl, Nat.le_of_ble_eq_true rfl, Nat.le_of_ble_eq_true rfl, Nat.le_of_ble_eq_true rfl, Nat.le_of_ble_eq_true rfl⟩ hR.z (as := [.int (nI 2)]) rfl rfl (c_R_fails hl o (zi) (zl) hR.z 2) ?_
          refine ev_nm (M0 := M.set o (.inr (10, zo o (ui (zi) 0 (nI 2)) (zl)))) (fun Mf eMf => ?_)
          have ff : Mf[o]? = some (.inr (10, zo o (ui (zi) 0 (nI 2)) (zl))) := by rw [eMf]; exact ev_sg hR.z
          refine ev_iret dX11_lose_36 rfl (rfl) ⟨Nat.le_of_ble_eq_true rfl, Nat.le_of_ble_eq_true rfl⟩ ?_
          have W7 : FX o (o + 31) (o + 31) M Mf := ⟨by rw [eMf]; simp only [List.length_set], fun j hj1 hj2 => by rw [eMf, ev_sn (by omega)]⟩
          have e9 : sLos S (nI k) b = ((2, 0), S) := by simp [sLos, jk, tk, ib]
          rw [e9]
          exact ⟨rfl, _, _, ⟨ff, ⟨hR.p.1, hR.p.2.1, hR.p.2.2.1, hR.p.2.2.2.1, hR.p.2.2.2.2.1, hR.p.2.2.2.2.2.1, hR.p.2.2.2.2.2.2.1, hR.p.2.2.2.2.2.2.2.1, hR.p.2.2.2.2.2.2.2.2.1, hR.p.2.2.2.2.2.2.2.2.2⟩, (hR.T.fx W7 (by omega) (by omega)), (hR.H.fx W7 (by omega)), (hR.y.fx W7 (by omega)), (hR.G.fx W7 (by omega) (by omega)), (hR.a.fx W7 (by omega)), (hR.u.fx W7 (by omega)), (hR.x.fx W7 (by omega)), (hR.k.fx W7 (by omega)), (hR.s.fx W7 (by omega))⟩, rfl, (FX.fr (lo := o + 1) (hi := o + 31) (W7.to (by omega) (by omega)) (by omega) (by omega))⟩
      · exact absurd (jk.symm.trans q4) (by decide)
  · have ia9 := ia
    refine ev_body hl rfl (by decide +kernel) (Nat.le_of_ble_eq_true rfl) ?_
    show ev_ l m_X11_lose 0 0 0 [some (.ref (o)), some (.int (a)), some (.int (b)), none] [] M _
    refine ev_blk (B := [(.iload_n 1, 1)]) (pe := 1) (ls' := [some (.ref (o)), some (.int (a)), some (.int (b)), none]) (st' := [.int (a)]) ⟨dX11_lose_0, rfl⟩ rfl ?_
    refine ev_cSv Y_X11_isChannel L_RX11_138 dX11_lose_1 ⟨Nat.le_of_ble_eq_true rfl, Nat.le_of_ble_eq_true rfl, Nat.le_of_ble_eq_true rfl, Nat.le_of_ble_eq_true rfl, Nat.le_of_ble_eq_true rfl⟩ (as := [.int (a)]) rfl rfl (c_R_isChannel hl a) ?_
    refine ev_ifB_ne dX11_lose_4 (tgt := 13) (by decide) (fun q4 => ?_) (fun q4 => ?_)
    · exact absurd (ia.symm.trans q4) (by decide)
    · refine ev_blk (B := [(.aload_n 0, 1), (.iconst 1, 1)]) (pe := 9) (ls' := [some (.ref (o)), some (.int (a)), some (.int (b)), none]) (st' := [.int (nI 1), .ref (o)]) ⟨dX11_lose_7, dX11_lose_8, rfl⟩ rfl ?_
      refine ev_cVv Y_X11_fails L_RX11_144 dX11_lose_9 ⟨Nat.le_of_ble_eq_true rfl, Nat.le_of_ble_eq_true rfl, Nat.le_of_ble_eq_true rfl, Nat.le_of_ble_eq_true rfl, Nat.le_of_ble_eq_true rfl⟩ hR.z (as := [.int (nI 1)]) rfl rfl (c_R_fails hl o (zi) (zl) hR.z 1) ?_
      refine ev_nm (M0 := M.set o (.inr (10, zo o (ui (zi) 0 (nI 1)) (zl)))) (fun Mf eMf => ?_)
      have ff : Mf[o]? = some (.inr (10, zo o (ui (zi) 0 (nI 1)) (zl))) := by rw [eMf]; exact ev_sg hR.z
      refine ev_iret dX11_lose_12 rfl (rfl) ⟨Nat.le_of_ble_eq_true rfl, Nat.le_of_ble_eq_true rfl⟩ ?_
      have W8 : FX o (o + 31) (o + 31) M Mf := ⟨by rw [eMf]; simp only [List.length_set], fun j hj1 hj2 => by rw [eMf, ev_sn (by omega)]⟩
      have e9 : sLos S a b = ((1, 0), S) := by simp [sLos, ia, q4]
      rw [e9]
      exact ⟨rfl, _, _, ⟨ff, ⟨hR.p.1, hR.p.2.1, hR.p.2.2.1, hR.p.2.2.2.1, hR.p.2.2.2.2.1, hR.p.2.2.2.2.2.1, hR.p.2.2.2.2.2.2.1, hR.p.2.2.2.2.2.2.2.1, hR.p.2.2.2.2.2.2.2.2.1, hR.p.2.2.2.2.2.2.2.2.2⟩, (hR.T.fx W8 (by omega) (by omega)), (hR.H.fx W8 (by omega)), (hR.y.fx W8 (by omega)), (hR.G.fx W8 (by omega) (by omega)), (hR.a.fx W8 (by omega)), (hR.u.fx W8 (by omega)), (hR.x.fx W8 (by omega)), (hR.k.fx W8 (by omega)), (hR.s.fx W8 (by omega))⟩, rfl, (FX.fr (lo := o + 1) (hi := o + 31) (W8.to (by omega) (by omega)) (by omega) (by omega))⟩

set_option maxHeartbeats 4000000 in
set_option maxRecDepth 100000 in
theorem r_undo {l : Launch} (hl : l.stackTraces = false) {M : ev_M} (o : Nat) (S : St) (hS : okS S) (hT10 : S.T.length ≤ 10) (hG3 : S.G.length ≤ 3) (hH20 : S.H.length ≤ 20) (zi : Nat → Int32) (zl : Nat → Int64) (hR : RR M o S zi zl) : ev_Mt l m_X11_undo [.ref (o)] M (fun r M1 => r = .inl (some (.int (sUnd S).1.2)) ∧ ∃ zi' zl', RR M1 o (sUnd S).2 zi' zl' ∧ zi' 0 = nI (sUnd S).1.1 ∧ Fr o (o + 31) M M1) := by
  refine ev_body hl rfl (by decide +kernel) (Nat.le_of_ble_eq_true rfl) ?_
  show ev_ l m_X11_undo 0 0 0 [some (.ref (o))] [] M _
  refine ev_blk (B := [(.aload_n 0, 1)]) (pe := 1) (ls' := [some (.ref (o))]) (st' := [.ref (o)]) ⟨dX11_undo_0, rfl⟩ rfl ?_
  refine ev_getf (v := .int (nI (S.H.length))) F_RX11_166 dX11_undo_1 hR.z (congrArg (fun q => some (Value.int q)) hR.p.2.2.1) ?_
  refine ev_fN_ne dX11_undo_4 (tgt := 13) (by decide) (by omega) (fun q4 => ?_) (fun q4 => ?_)
  · obtain ⟨yf, yk, yg, yh, r2, r3, r4, r5, hQ, hK⟩ := hR.H
    have hc6 := (cfs_cg hS.H (show S.H.length - 1 < (hL S.H).length by rw [hL_len]; omega)).1
    refine ev_blk (B := [(.aload_n 0, 1), (.iconst 0, 1)]) (pe := 15) (ls' := [some (.ref (o))]) (st' := [.int (nI 0), .ref (o)]) ⟨dX11_undo_13, dX11_undo_14, rfl⟩ rfl ?_
    refine ev_put F_RX11_106 dX11_undo_15 hR.z (Nat.le_of_ble_eq_true rfl) (fun _ _ => ⟨rfl, rfl⟩) ?_
    rw [zs_0]
    refine ev_nm (M0 := M.set (o) (.inr (10, zo o (ui (zi) 0 (nI 0)) (zl)))) (fun M1 eM1 => ?_)
    have f2 : M1[o]? = some (.inr (10, zo o (ui (zi) 0 (nI 0)) (zl))) := by rw [eM1]; exact ev_sg hR.z
    have f3 : M1[o + 2]? = some (.inl (0, 21, .inl (yf))) := by rw [eM1, ev_sn (by omega)]; exact r2
    have f4 : M1[o + 3]? = some (.inl (0, 21, .inl (yk))) := by rw [eM1, ev_sn (by omega)]; exact r3
    have f5 : M1[o + 4]? = some (.inl (1, 21, .inr (.inl (yg)))) := by rw [eM1, ev_sn (by omega)]; exact r4
    have f6 : M1[o + 5]? = some (.inl (1, 21, .inr (.inl (yh)))) := by rw [eM1, ev_sn (by omega)]; exact r5
    refine ev_blk (B := [(.aload_n 0, 1), (.dup, 1)]) (pe := 20) (ls' := [some (.ref (o))]) (st' := [.ref (o), .ref (o)]) ⟨dX11_undo_18, dX11_undo_19, rfl⟩ rfl ?_
    refine ev_getf (v := .int (nI (S.H.length))) F_RX11_166 dX11_undo_20 f2 (congrArg (fun q => some (Value.int q)) hR.p.2.2.1) ?_
    refine ev_blk (B := [(.iconst 1, 1), (.isub, 1)]) (pe := 25) (ls' := [some (.ref (o))]) (st' := [.int (nI ((S.H.length) - 1)), .ref (o)]) ⟨dX11_undo_23, dX11_undo_24, rfl⟩ (by show some (([some (.ref (o))] : ev_L), ([.int ((nI (S.H.length)) - (nI 1)), .ref (o)] : List Value)) = _; rw [pk_sub (show 1 ≤ (S.H.length) by omega)]) ?_
    refine ev_put F_RX11_166 dX11_undo_25 f2 (Nat.le_of_ble_eq_true rfl) (fun _ _ => ⟨rfl, rfl⟩) ?_
    rw [zs_4]
    refine ev_nm (M0 := M1.set (o) (.inr (10, zo o (ui (ui (zi) 0 (nI 0)) 4 (nI ((S.H.length) - 1))) (zl)))) (fun M7 eM7 => ?_)
    have f8 : M7[o]? = some (.inr (10, zo o (ui (ui (zi) 0 (nI 0)) 4 (nI ((S.H.length) - 1))) (zl))) := by rw [eM7]; exact ev_sg f2
    have f9 : M7[o + 2]? = some (.inl (0, 21, .inl (yf))) := by rw [eM7, ev_sn (by omega)]; exact f3
    have f10 : M7[o + 3]? = some (.inl (0, 21, .inl (yk))) := by rw [eM7, ev_sn (by omega)]; exact f4
    have f11 : M7[o + 4]? = some (.inl (1, 21, .inr (.inl (yg)))) := by rw [eM7, ev_sn (by omega)]; exact f5
    have f12 : M7[o + 5]? = some (.inl (1, 21, .inr (.inl (yh)))) := by rw [eM7, ev_sn (by omega)]; exact f6
    refine ev_blk (B := [(.aload_n 0, 1), (.aload_n 0, 1)]) (pe := 30) (ls' := [some (.ref (o))]) (st' := [.ref (o), .ref (o)]) ⟨dX11_undo_28, dX11_undo_29, rfl⟩ rfl ?_
    refine ev_getf (v := .ref (o + 2)) F_RX11_13 dX11_undo_30 f8 rfl ?_
    refine ev_blk (B := [(.aload_n 0, 1)]) (pe := 34) (ls' := [some (.ref (o))]) (st' := [.ref (o), .ref (o + 2), .ref (o)]) ⟨dX11_undo_33, rfl⟩ rfl ?_
    refine ev_getf (v := .int (nI ((S.H.length) - 1))) F_RX11_166 dX11_undo_34 f8 rfl ?_
    refine ev_iald dX11_undo_37 f9 (vp_in_nI (show (S.H.length) - 1 < 21 by omega) (by omega)) ?_
    rw [nI_clamp (show (S.H.length) - 1 < 2 ^ 31 by omega)]
    rw [show yf ((S.H.length) - 1) = nI ((cg (hL S.H) (S.H.length - 1)).1) from (hQ.at (by omega)).1]
    refine ev_put F_RX11_169 dX11_undo_38 f8 (Nat.le_of_ble_eq_true rfl) (fun _ _ => ⟨rfl, rfl⟩) ?_
    rw [zs_3]
    refine ev_nm (M0 := M7.set (o) (.inr (10, zo o (ui (ui (ui (zi) 0 (nI 0)) 4 (nI ((S.H.length) - 1))) 3 (nI ((cg (hL S.H) (S.H.length - 1)).1))) (zl)))) (fun M13 eM13 => ?_)
    have f14 : M13[o]? = some (.inr (10, zo o (ui (ui (ui (zi) 0 (nI 0)) 4 (nI ((S.H.length) - 1))) 3 (nI ((cg (hL S.H) (S.H.length - 1)).1))) (zl))) := by rw [eM13]; exact ev_sg f8
    have f15 : M13[o + 2]? = some (.inl (0, 21, .inl (yf))) := by rw [eM13, ev_sn (by omega)]; exact f9
    have f16 : M13[o + 3]? = some (.inl (0, 21, .inl (yk))) := by rw [eM13, ev_sn (by omega)]; exact f10
    have f17 : M13[o + 4]? = some (.inl (1, 21, .inr (.inl (yg)))) := by rw [eM13, ev_sn (by omega)]; exact f11
    have f18 : M13[o + 5]? = some (.inl (1, 21, .inr (.inl (yh)))) := by rw [eM13, ev_sn (by omega)]; exact f12
    refine ev_blk (B := [(.aload_n 0, 1), (.aload_n 0, 1)]) (pe := 43) (ls' := [some (.ref (o))]) (st' := [.ref (o), .ref (o)]) ⟨dX11_undo_41, dX11_undo_42, rfl⟩ rfl ?_
    refine ev_getf (v := .ref (o + 4)) F_RX11_19 dX11_undo_43 f14 rfl ?_
    refine ev_blk (B := [(.aload_n 0, 1)]) (pe := 47) (ls' := [some (.ref (o))]) (st' := [.ref (o), .ref (o + 4), .ref (o)]) ⟨dX11_undo_46, rfl⟩ rfl ?_
    refine ev_getf (v := .int (nI ((S.H.length) - 1))) F_RX11_166 dX11_undo_47 f14 rfl ?_
    refine ev_lald dX11_undo_50 f17 (vp_in_nI (show (S.H.length) - 1 < 21 by omega) (by omega)) ?_
    rw [nI_clamp (show (S.H.length) - 1 < 2 ^ 31 by omega)]
    rw [show yg ((S.H.length) - 1) = e2 (cg (hL S.H) (S.H.length - 1)).2.1 from (hQ.at (by omega)).2.1]
    refine ev_put F_RX11_159 dX11_undo_51 f14 (Nat.le_of_ble_eq_true rfl) (fun _ _ => ⟨rfl, rfl⟩) ?_
    rw [zs_5]
    refine ev_nm (M0 := M13.set (o) (.inr (10, zo o (ui (ui (ui (zi) 0 (nI 0)) 4 (nI ((S.H.length) - 1))) 3 (nI ((cg (hL S.H) (S.H.length - 1)).1))) (ul (zl) 5 (e2 (cg (hL S.H) (S.H.length - 1)).2.1))))) (fun M19 eM19 => ?_)
    have f20 : M19[o]? = some (.inr (10, zo o (ui (ui (ui (zi) 0 (nI 0)) 4 (nI ((S.H.length) - 1))) 3 (nI ((cg (hL S.H) (S.H.length - 1)).1))) (ul (zl) 5 (e2 (cg (hL S.H) (S.H.length - 1)).2.1)))) := by rw [eM19]; exact ev_sg f14
    have f21 : M19[o + 2]? = some (.inl (0, 21, .inl (yf))) := by rw [eM19, ev_sn (by omega)]; exact f15
    have f22 : M19[o + 3]? = some (.inl (0, 21, .inl (yk))) := by rw [eM19, ev_sn (by omega)]; exact f16
    have f23 : M19[o + 4]? = some (.inl (1, 21, .inr (.inl (yg)))) := by rw [eM19, ev_sn (by omega)]; exact f17
    have f24 : M19[o + 5]? = some (.inl (1, 21, .inr (.inl (yh)))) := by rw [eM19, ev_sn (by omega)]; exact f18
    refine ev_blk (B := [(.aload_n 0, 1), (.aload_n 0, 1)]) (pe := 56) (ls' := [some (.ref (o))]) (st' := [.ref (o), .ref (o)]) ⟨dX11_undo_54, dX11_undo_55, rfl⟩ rfl ?_
    refine ev_getf (v := .ref (o + 5)) F_RX11_23 dX11_undo_56 f20 rfl ?_
    refine ev_blk (B := [(.aload_n 0, 1)]) (pe := 60) (ls' := [some (.ref (o))]) (st' := [.ref (o), .ref (o + 5), .ref (o)]) ⟨dX11_undo_59, rfl⟩ rfl ?_
    refine ev_getf (v := .int (nI ((S.H.length) - 1))) F_RX11_166 dX11_undo_60 f20 rfl ?_
    refine ev_lald dX11_undo_63 f24 (vp_in_nI (show (S.H.length) - 1 < 21 by omega) (by omega)) ?_
    rw [nI_clamp (show (S.H.length) - 1 < 2 ^ 31 by omega)]
    rw [show yh ((S.H.length) - 1) = e2 (cg (hL S.H) (S.H.length - 1)).2.2 from (hQ.at (by omega)).2.2]
    refine ev_put F_RX11_163 dX11_undo_64 f20 (Nat.le_of_ble_eq_true rfl) (fun _ _ => ⟨rfl, rfl⟩) ?_
    rw [zs_6]
    refine ev_nm (M0 := M19.set (o) (.inr (10, zo o (ui (ui (ui (zi) 0 (nI 0)) 4 (nI ((S.H.length) - 1))) 3 (nI ((cg (hL S.H) (S.H.length - 1)).1))) (ul (ul (zl) 5 (e2 (cg (hL S.H) (S.H.length - 1)).2.1)) 6 (e2 (cg (hL S.H) (S.H.length - 1)).2.2))))) (fun M25 eM25 => ?_)
    have f26 : M25[o]? = some (.inr (10, zo o (ui (ui (ui (zi) 0 (nI 0)) 4 (nI ((S.H.length) - 1))) 3 (nI ((cg (hL S.H) (S.H.length - 1)).1))) (ul (ul (zl) 5 (e2 (cg (hL S.H) (S.H.length - 1)).2.1)) 6 (e2 (cg (hL S.H) (S.H.length - 1)).2.2)))) := by rw [eM25]; exact ev_sg f20
    have f27 : M25[o + 2]? = some (.inl (0, 21, .inl (yf))) := by rw [eM25, ev_sn (by omega)]; exact f21
    have f28 : M25[o + 3]? = some (.inl (0, 21, .inl (yk))) := by rw [eM25, ev_sn (by omega)]; exact f22
    have f29 : M25[o + 4]? = some (.inl (1, 21, .inr (.inl (yg)))) := by rw [eM25, ev_sn (by omega)]; exact f23
    have f30 : M25[o + 5]? = some (.inl (1, 21, .inr (.inl (yh)))) := by rw [eM25, ev_sn (by omega)]; exact f24
    refine ev_blk (B := [(.aload_n 0, 1)]) (pe := 68) (ls' := [some (.ref (o))]) (st' := [.ref (o)]) ⟨dX11_undo_67, rfl⟩ rfl ?_
    refine ev_getf (v := .ref (o + 3)) F_RX11_16 dX11_undo_68 f26 rfl ?_
    refine ev_blk (B := [(.aload_n 0, 1)]) (pe := 72) (ls' := [some (.ref (o))]) (st' := [.ref (o), .ref (o + 3)]) ⟨dX11_undo_71, rfl⟩ rfl ?_
    refine ev_getf (v := .int (nI ((S.H.length) - 1))) F_RX11_166 dX11_undo_72 f26 rfl ?_
    refine ev_iald dX11_undo_75 f28 (vp_in_nI (show (S.H.length) - 1 < 21 by omega) (by omega)) ?_
    rw [nI_clamp (show (S.H.length) - 1 < 2 ^ 31 by omega)]
    rw [show yk ((S.H.length) - 1) = nI (kg S.H (S.H.length - 1)) from hK _ (by omega)]
    refine ev_iret dX11_undo_76 rfl (rfl) ⟨Nat.le_of_ble_eq_true rfl, Nat.le_of_ble_eq_true rfl⟩ ?_
    have W31 : FX o (o + 31) (o + 31) M M25 := ⟨by rw [eM25, eM19, eM13, eM7, eM1]; simp only [List.length_set], fun j hj1 hj2 => by rw [eM25, ev_sn (by omega), eM19, ev_sn (by omega), eM13, ev_sn (by omega), eM7, ev_sn (by omega), eM1, ev_sn (by omega)]⟩
    have e9 : sUnd S = ((0, nI (kg S.H (S.H.length - 1))), St.mk S.T (cg (hL S.H) (S.H.length - 1)) S.G S.H.dropLast S.n S.t S.f S.tk S.T9 S.x9 S.G9) := by unfold sUnd; rw [if_neg q4]
    rw [e9]
    refine ⟨rfl, _, _, hR.xh f26 (W31.em (by omega)) ?_ rfl (by rw [List.length_dropLast]; rfl) rfl rfl (fun q hq => (ui_ne (nm hq (by decide))).trans ((ui_ne (nm hq (by decide))).trans (ui_ne (nm hq (by decide))))) (fun q hq => (ul_ne (nm hq (by decide))).trans (ul_ne (nm hq (by decide)))), rfl, (FX.fr (lo := o + 1) (hi := o + 31) (W31.to (by omega) (by omega)) (by omega) (by omega))⟩
    have hPH := (hR.H.fx W31 (by omega))
    obtain ⟨f2, k2, g2, h2, b2, b3, b4, b5, hQ2, hK2⟩ := hPH
    refine ⟨f2, k2, g2, h2, b2, b3, b4, b5, QP.of fun i hi => ?_, fun i hi => ?_⟩
    · rw [List.length_dropLast] at hi
      rw [hL_dropLast, cg_dropLast (by rw [List.length_dropLast, hL_len]; exact hi)]
      exact hQ2.at (by omega)
    · rw [List.length_dropLast] at hi
      rw [kg_dropLast hi]
      exact hK2 i (by omega)
  · refine ev_blk (B := [(.aload_n 0, 1), (.iconst 1, 1)]) (pe := 9) (ls' := [some (.ref (o))]) (st' := [.int (nI 1), .ref (o)]) ⟨dX11_undo_7, dX11_undo_8, rfl⟩ rfl ?_
    refine ev_cVv Y_X11_fails L_RX11_144 dX11_undo_9 ⟨Nat.le_of_ble_eq_true rfl, Nat.le_of_ble_eq_true rfl, Nat.le_of_ble_eq_true rfl, Nat.le_of_ble_eq_true rfl, Nat.le_of_ble_eq_true rfl⟩ hR.z (as := [.int (nI 1)]) rfl rfl (c_R_fails hl o (zi) (zl) hR.z 1) ?_
    refine ev_nm (M0 := M.set o (.inr (10, zo o (ui (zi) 0 (nI 1)) (zl)))) (fun Mf eMf => ?_)
    have ff : Mf[o]? = some (.inr (10, zo o (ui (zi) 0 (nI 1)) (zl))) := by rw [eMf]; exact ev_sg hR.z
    refine ev_iret dX11_undo_12 rfl (rfl) ⟨Nat.le_of_ble_eq_true rfl, Nat.le_of_ble_eq_true rfl⟩ ?_
    have W32 : FX o (o + 31) (o + 31) M Mf := ⟨by rw [eMf]; simp only [List.length_set], fun j hj1 hj2 => by rw [eMf, ev_sn (by omega)]⟩
    have e9 : sUnd S = ((1, 0), S) := by unfold sUnd; rw [if_pos q4]
    rw [e9]
    exact ⟨rfl, _, _, ⟨ff, ⟨hR.p.1, hR.p.2.1, hR.p.2.2.1, hR.p.2.2.2.1, hR.p.2.2.2.2.1, hR.p.2.2.2.2.2.1, hR.p.2.2.2.2.2.2.1, hR.p.2.2.2.2.2.2.2.1, hR.p.2.2.2.2.2.2.2.2.1, hR.p.2.2.2.2.2.2.2.2.2⟩, (hR.T.fx W32 (by omega) (by omega)), (hR.H.fx W32 (by omega)), (hR.y.fx W32 (by omega)), (hR.G.fx W32 (by omega) (by omega)), (hR.a.fx W32 (by omega)), (hR.u.fx W32 (by omega)), (hR.x.fx W32 (by omega)), (hR.k.fx W32 (by omega)), (hR.s.fx W32 (by omega))⟩, rfl, (FX.fr (lo := o + 1) (hi := o + 31) (W32.to (by omega) (by omega)) (by omega) (by omega))⟩


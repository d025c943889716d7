/-! ===== the reference: counting ===== -/
theorem sw_le {w : List Nat} {i x : Nat} (hx : x < 3) : sw w i x ≤ sw w i 0 + sw w i 1 + sw w i 2 := by
  match x, hx with
  | 0, _ => omega
  | 1, _ => omega
  | 2, _ => omega
theorem sw_sum {w : List Nat} {i : Nat} (hi : i < w.length) (hx : w[i] < 3) : sw w (i + 1) 0 + sw w (i + 1) 1 + sw w (i + 1) 2 = (sw w i 0 + sw w i 1 + sw w i 2) + (1 + sw w i 0 + sw w i 1 + sw w i 2 - sw w i w[i]) := by
  have e : ∀ x, sw w (i + 1) x = if w.getD i 3 = x then 1 + sw w i 0 + sw w i 1 + sw w i 2 else sw w i x := fun _ => rfl
  rw [e, e, e, gd3 hi]
  generalize w[i] = x at hx ⊢
  match x, hx with
  | 0, _ => rw [if_pos rfl, if_neg (by decide), if_neg (by decide)]; omega
  | 1, _ => rw [if_neg (by decide), if_pos rfl, if_neg (by decide)]; omega
  | 2, _ => rw [if_neg (by decide), if_neg (by decide), if_pos rfl]; omega
theorem PY.of {M : ev_M} {o : Nat} {f g : Nat → Int32} (h1 : M[o + 6]? = some (.inl (0, 12, .inl f))) (h2 : M[o + 7]? = some (.inl (0, 12, .inl g))) : PY M o := ⟨f, g, h1, h2⟩
/-- the rows of the counting are new -/
theorem RR.ky {M M1 : ev_M} {o : Nat} {S : St} {zi zi' : Nat → Int32} {zl zl' : Nat → Int64} (h : RR M o S zi zl) (h1 : M1[o]? = some (.inr (10, zo o zi' zl'))) (hk : SK zi zi' zl zl') (hf : FX o (o + 6) (o + 8) M M1) (hy : PY M1 o) : RR M1 o S zi' zl' := by
  refine ⟨h1, h.p.keep hk, h.T.fx hf (by omega) (by omega), h.H.fx hf (by omega), hy, h.G.fx hf (by omega) (by omega), ?_, h.u.fx hf (by omega), h.x.fx hf (by omega), h.k.fx hf (by omega), h.s.fx hf (by omega)⟩
  rw [hk.1 29 (by decide), hk.1 30 (by decide), hk.1 31 (by decide)]
  exact h.a.fx hf (by omega)
set_option maxHeartbeats 4000000 in
set_option maxRecDepth 100000 in
theorem c_R_emb_i {l : Launch} (hl : l.stackTraces = false)  (o : Nat) (zi : Nat → Int32) (zl : Nat → Int64) (u : List Nat) (hu : wk u) (hun : u.length ≤ 10) (v : List Nat) (hv : wk v) (hvn : v.length ≤ 10) (k : Nat) (M0 : ev_M) (i : Nat) (hi : i < v.length) (Q : ev_R → ev_M → Prop) (hk : ∀ (M : ev_M) (f : Nat → Int32) (j : Nat), M[o]? = some (.inr (10, zo o zi zl)) → M[o + 6]? = some (.inl (0, 12, .inl f)) → FX o (o + 6) (o + 7) M0 M → (∀ q, q ≤ u.length → f q = nI (em u v (i + 1) q)) → ev_ l m_X11_embeddings 0 0 137 [some (.ref (o)), some (.int (nI k)), some (.long (e2 u)), none, some (.long (e2 v)), none, some (.int (nI i)), some (.int (nI j))] [] M Q) : ∀ (n9 : Nat) (j : Nat) (M : ev_M) (f : Nat → Int32), j ≤ u.length → M[o]? = some (.inr (10, zo o zi zl)) → M[o + 6]? = some (.inl (0, 12, .inl f)) → FX o (o + 6) (o + 7) M0 M → (∀ q, q ≤ j → f q = nI (em u v i q)) → (∀ q, j < q → q ≤ u.length → f q = nI (em u v (i + 1) q)) → j < n9 → ev_ l m_X11_embeddings 0 0 85 [some (.ref (o)), some (.int (nI k)), some (.long (e2 u)), none, some (.long (e2 v)), none, some (.int (nI i)), some (.int (nI j))] [] M (Q) := by
  intro n9
  induction n9 with
  | zero => intro j M f hj hO h6 hF ha hb hm9; exact absurd hm9 (by omega)
  | succ n9 ih =>
    intro j M f hj hO h6 hF ha hb hm9
    refine ev_blk (B := [(.iload 7, 2)]) (pe := 87) (ls' := [some (.ref (o)), some (.int (nI k)), some (.long (e2 u)), none, some (.long (e2 v)), none, some (.int (nI i)), some (.int (nI j))]) (st' := [.int (nI j)]) ⟨dX11_embeddings_85, rfl⟩ rfl ?_
    refine ev_fN_le dX11_embeddings_87 (tgt := 137) (by decide) (by first | omega | (have := hu _ (List.getElem_mem (show j - 1 < u.length by omega)); omega) | (have := hv _ (List.getElem_mem (show i < v.length by omega)); omega)) (fun q87 => ?_) (fun q87 => ?_)
    · exact hk M f j hO h6 hF (fun q hq9 => by
        by_cases e : q = 0
        · subst e; rw [ha 0 (by omega)]; show _ = nI (em u v i 0 + _); rw [if_neg (fun z => z.1 rfl), Nat.add_zero]
        · exact hb q (by omega) hq9)
    · refine ev_blk (B := [(.aload_n 0, 1)]) (pe := 91) (ls' := [some (.ref (o)), some (.int (nI k)), some (.long (e2 u)), none, some (.long (e2 v)), none, some (.int (nI i)), some (.int (nI j))]) (st' := [.ref (o)]) ⟨dX11_embeddings_90, rfl⟩ rfl ?_
      refine ev_getf (v := .ref (o + 6)) F_RX11_26 dX11_embeddings_91 hO rfl ?_
      refine ev_blk (B := [(.iload 7, 2), (.dup2, 1)]) (pe := 97) (ls' := [some (.ref (o)), some (.int (nI k)), some (.long (e2 u)), none, some (.long (e2 v)), none, some (.int (nI i)), some (.int (nI j))]) (st' := [.int (nI j), .ref (o + 6), .int (nI j), .ref (o + 6)]) ⟨dX11_embeddings_94, dX11_embeddings_96, rfl⟩ rfl ?_
      refine ev_iald dX11_embeddings_97 h6 (vp_in_nI (show j < 12 by omega) (by omega)) ?_
      rw [nI_clamp (show j < 2 ^ 31 by omega)]
      rw [show f j = nI (em u v i j) from ha j (Nat.le_refl _)]
      refine ev_blk (B := [(.lload_n 2, 1), (.iload 7, 2), (.iconst 1, 1), (.isub, 1)]) (pe := 103) (ls' := [some (.ref (o)), some (.int (nI k)), some (.long (e2 u)), none, some (.long (e2 v)), none, some (.int (nI i)), some (.int (nI j))]) (st' := [.int (nI (j - 1)), .long (e2 u), .int (nI (em u v i j)), .int (nI j), .ref (o + 6)]) ⟨dX11_embeddings_98, dX11_embeddings_99, dX11_embeddings_101, dX11_embeddings_102, rfl⟩ (by show some (([some (.ref (o)), some (.int (nI k)), some (.long (e2 u)), none, some (.long (e2 v)), none, some (.int (nI i)), some (.int (nI j))] : ev_L), ([.int ((nI j) - (nI 1)), .long (e2 u), .int (nI (em u v i j)), .int (nI j), .ref (o + 6)] : List Value)) = _; rw [pk_sub (show 1 ≤ j by omega)]) ?_
      refine ev_cSv Y_X11_letterAt L_RX11_119 dX11_embeddings_103 ⟨Nat.le_of_ble_eq_true rfl, Nat.le_of_ble_eq_true rfl, Nat.le_of_ble_eq_true rfl, Nat.le_of_ble_eq_true rfl, Nat.le_of_ble_eq_true rfl⟩ (as := [.long (e2 u), .int (nI (j - 1))]) rfl rfl (c_R_letterAt hl u hu (Nat.le_trans hun (by decide)) (j - 1) (by omega)) ?_
      refine ev_blk (B := [(.lload 4, 2), (.iload 6, 2)]) (pe := 110) (ls' := [some (.ref (o)), some (.int (nI k)), some (.long (e2 u)), none, some (.long (e2 v)), none, some (.int (nI i)), some (.int (nI j))]) (st' := [.int (nI i), .long (e2 v), .int (nI (u[j - 1])), .int (nI (em u v i j)), .int (nI j), .ref (o + 6)]) ⟨dX11_embeddings_106, dX11_embeddings_108, rfl⟩ rfl ?_
      refine ev_cSv Y_X11_letterAt L_RX11_119 dX11_embeddings_110 ⟨Nat.le_of_ble_eq_true rfl, Nat.le_of_ble_eq_true rfl, Nat.le_of_ble_eq_true rfl, Nat.le_of_ble_eq_true rfl, Nat.le_of_ble_eq_true rfl⟩ (as := [.long (e2 v), .int (nI i)]) rfl rfl (c_R_letterAt hl v hv (Nat.le_trans hvn (by decide)) i (by omega)) ?_
      refine ev_iN_ne dX11_embeddings_113 (tgt := 128) (by decide) (by first | omega | (have := hu _ (List.getElem_mem (show j - 1 < u.length by omega)); omega) | (have := hv _ (List.getElem_mem (show i < v.length by omega)); omega)) (by first | omega | (have := hu _ (List.getElem_mem (show j - 1 < u.length by omega)); omega) | (have := hv _ (List.getElem_mem (show i < v.length by omega)); omega)) (fun q113 => ?_) (fun q113 => ?_)
      · refine ev_blk (B := [(.iconst 0, 1), (.iadd, 1)]) (pe := 130) (ls' := [some (.ref (o)), some (.int (nI k)), some (.long (e2 u)), none, some (.long (e2 v)), none, some (.int (nI i)), some (.int (nI j))]) (st' := [.int (nI ((em u v i j) + 0)), .int (nI j), .ref (o + 6)]) ⟨dX11_embeddings_128, dX11_embeddings_129, rfl⟩ (by show some (([some (.ref (o)), some (.int (nI k)), some (.long (e2 u)), none, some (.long (e2 v)), none, some (.int (nI i)), some (.int (nI j))] : ev_L), ([.int ((nI (em u v i j)) + (nI 0)), .int (nI j), .ref (o + 6)] : List Value)) = _; rw [nI_add (em u v i j) 0]) ?_
        refine ev_iast dX11_embeddings_130 h6 (vp_in_nI (show j < 12 by omega) (by omega)) ?_
        rw [nI_clamp (show j < 2 ^ 31 by omega)]
        refine ev_nm (M0 := M.set (o + 6) (.inl (0, 12, .inl (upd f j (nI ((em u v i j) + 0)))))) (fun M1 eM1 => ?_)
        have f2 : M1[o]? = some (.inr (10, zo o (zi) (zl))) := by rw [eM1, ev_sn (by omega)]; exact hO
        have f3 : M1[o + 6]? = some (.inl (0, 12, .inl (upd f j (nI ((em u v i j) + 0))))) := by rw [eM1]; exact ev_sg h6
        refine ev_blk (B := [(.iinc 7 (-1), 3)]) (pe := 134) (ls' := [some (.ref (o)), some (.int (nI k)), some (.long (e2 u)), none, some (.long (e2 v)), none, some (.int (nI i)), some (.int (nI (j - 1)))]) (st' := []) ⟨dX11_embeddings_131, rfl⟩ (by show some (([some (.ref (o)), some (.int (nI k)), some (.long (e2 u)), none, some (.long (e2 v)), none, some (.int (nI i)), some (.int ((nI j) + Int32.ofInt (-1)))] : ev_L), ([] : List Value)) = _; rw [ev_incm (show 0 < j by omega)]) ?_
        refine ev_goto (tgt := 85) dX11_embeddings_134 (by decide) ?_
        refine ih (j - 1) _ _ (by omega) f2 f3 (hF.tr ⟨by rw [eM1]; simp only [List.length_set], fun j hj1 hj2 => by rw [eM1, ev_sn (by omega)]⟩) (fun q h1 => ?_) (fun q h1 h2 => ?_) (by omega)
        · rw [upd_at, if_neg (by omega)]; exact ha q (by omega)
        · rw [upd_at]
          by_cases e : q = j
          · subst e
            rw [if_pos rfl]
            show _ = nI (em u v i q + _)
            first
              | rw [if_pos ⟨by omega, by rw [gd3 (by omega), gd4 (by omega)]; exact q113.symm⟩]
              | rw [if_neg (fun z => q113 (by have := z.2; rw [gd3 (by omega), gd4 (by omega)] at this; exact this.symm))]
          · rw [if_neg e]; exact hb q (by omega) h2
      · refine ev_blk (B := [(.aload_n 0, 1)]) (pe := 117) (ls' := [some (.ref (o)), some (.int (nI k)), some (.long (e2 u)), none, some (.long (e2 v)), none, some (.int (nI i)), some (.int (nI j))]) (st' := [.ref (o), .int (nI (em u v i j)), .int (nI j), .ref (o + 6)]) ⟨dX11_embeddings_116, rfl⟩ rfl ?_
        refine ev_getf (v := .ref (o + 6)) F_RX11_26 dX11_embeddings_117 hO rfl ?_
        refine ev_blk (B := [(.iload 7, 2), (.iconst 1, 1), (.isub, 1)]) (pe := 124) (ls' := [some (.ref (o)), some (.int (nI k)), some (.long (e2 u)), none, some (.long (e2 v)), none, some (.int (nI i)), some (.int (nI j))]) (st' := [.int (nI (j - 1)), .ref (o + 6), .int (nI (em u v i j)), .int (nI j), .ref (o + 6)]) ⟨dX11_embeddings_120, dX11_embeddings_122, dX11_embeddings_123, rfl⟩ (by show some (([some (.ref (o)), some (.int (nI k)), some (.long (e2 u)), none, some (.long (e2 v)), none, some (.int (nI i)), some (.int (nI j))] : ev_L), ([.int ((nI j) - (nI 1)), .ref (o + 6), .int (nI (em u v i j)), .int (nI j), .ref (o + 6)] : List Value)) = _; rw [pk_sub (show 1 ≤ j by omega)]) ?_
        refine ev_iald dX11_embeddings_124 h6 (vp_in_nI (show j - 1 < 12 by omega) (by omega)) ?_
        rw [nI_clamp (show j - 1 < 2 ^ 31 by omega)]
        rw [show f (j - 1) = nI (em u v i (j - 1)) from ha (j - 1) (by omega)]
        refine ev_goto (tgt := 129) dX11_embeddings_125 (by decide) ?_
        refine ev_blk (B := [(.iadd, 1)]) (pe := 130) (ls' := [some (.ref (o)), some (.int (nI k)), some (.long (e2 u)), none, some (.long (e2 v)), none, some (.int (nI i)), some (.int (nI j))]) (st' := [.int (nI ((em u v i j) + (em u v i (j - 1)))), .int (nI j), .ref (o + 6)]) ⟨dX11_embeddings_129, rfl⟩ (by show some (([some (.ref (o)), some (.int (nI k)), some (.long (e2 u)), none, some (.long (e2 v)), none, some (.int (nI i)), some (.int (nI j))] : ev_L), ([.int ((nI (em u v i j)) + (nI (em u v i (j - 1)))), .int (nI j), .ref (o + 6)] : List Value)) = _; rw [nI_add (em u v i j) (em u v i (j - 1))]) ?_
        refine ev_iast dX11_embeddings_130 h6 (vp_in_nI (show j < 12 by omega) (by omega)) ?_
        rw [nI_clamp (show j < 2 ^ 31 by omega)]
        refine ev_nm (M0 := M.set (o + 6) (.inl (0, 12, .inl (upd f j (nI ((em u v i j) + (em u v i (j - 1)))))))) (fun M4 eM4 => ?_)
        have f5 : M4[o]? = some (.inr (10, zo o (zi) (zl))) := by rw [eM4, ev_sn (by omega)]; exact hO
        have f6 : M4[o + 6]? = some (.inl (0, 12, .inl (upd f j (nI ((em u v i j) + (em u v i (j - 1))))))) := by rw [eM4]; exact ev_sg h6
        refine ev_blk (B := [(.iinc 7 (-1), 3)]) (pe := 134) (ls' := [some (.ref (o)), some (.int (nI k)), some (.long (e2 u)), none, some (.long (e2 v)), none, some (.int (nI i)), some (.int (nI (j - 1)))]) (st' := []) ⟨dX11_embeddings_131, rfl⟩ (by show some (([some (.ref (o)), some (.int (nI k)), some (.long (e2 u)), none, some (.long (e2 v)), none, some (.int (nI i)), some (.int ((nI j) + Int32.ofInt (-1)))] : ev_L), ([] : List Value)) = _; rw [ev_incm (show 0 < j by omega)]) ?_
        refine ev_goto (tgt := 85) dX11_embeddings_134 (by decide) ?_
        refine ih (j - 1) _ _ (by omega) f5 f6 (hF.tr ⟨by rw [eM4]; simp only [List.length_set], fun j hj1 hj2 => by rw [eM4, ev_sn (by omega)]⟩) (fun q h1 => ?_) (fun q h1 h2 => ?_) (by omega)
        · rw [upd_at, if_neg (by omega)]; exact ha q (by omega)
        · rw [upd_at]
          by_cases e : q = j
          · subst e
            rw [if_pos rfl]
            show _ = nI (em u v i q + _)
            first
              | rw [if_pos ⟨by omega, by rw [gd3 (by omega), gd4 (by omega)]; exact q113.symm⟩]
              | rw [if_neg (fun z => q113 (by have := z.2; rw [gd3 (by omega), gd4 (by omega)] at this; exact this.symm))]
          · rw [if_neg e]; exact hb q (by omega) h2

set_option maxHeartbeats 4000000 in
set_option maxRecDepth 100000 in
theorem c_R_emb_l {l : Launch} (hl : l.stackTraces = false)  (o : Nat) (zi : Nat → Int32) (zl : Nat → Int64) (u : List Nat) (hu : wk u) (hun : u.length ≤ 10) (v : List Nat) (hv : wk v) (hvn : v.length ≤ 10) (k : Nat) (M0 : ev_M) : ∀ (n9 : Nat) (i : Nat) (M : ev_M) (f : Nat → Int32), i ≤ v.length → M[o]? = some (.inr (10, zo o zi zl)) → M[o + 6]? = some (.inl (0, 12, .inl f)) → FX o (o + 6) (o + 7) M0 M → (∀ q, q ≤ u.length → f q = nI (em u v i q)) → v.length - i < n9 → ev_ l m_X11_embeddings 0 0 69 [some (.ref (o)), some (.int (nI k)), some (.long (e2 u)), none, some (.long (e2 v)), none, some (.int (nI i)), none] [] M (fun r M1 => r = .inl (some (.int (nI (em u v v.length u.length)))) ∧ M1[o]? = some (.inr (10, zo o zi zl)) ∧ (∃ f, M1[o + 6]? = some (.inl (0, 12, .inl f))) ∧ FX o (o + 6) (o + 7) M0 M1) := by
  intro n9
  induction n9 with
  | zero => intro i M f hi hO h6 hF ha hm9; exact absurd hm9 (by omega)
  | succ n9 ih =>
    intro i M f hi hO h6 hF ha hm9
    refine ev_blk (B := [(.iload 6, 2), (.lload 4, 2)]) (pe := 73) (ls' := [some (.ref (o)), some (.int (nI k)), some (.long (e2 u)), none, some (.long (e2 v)), none, some (.int (nI i)), none]) (st' := [.long (e2 v), .int (nI i)]) ⟨dX11_embeddings_69, dX11_embeddings_71, rfl⟩ rfl ?_
    refine ev_cSv Y_X11_lengthOf L_RX11_111 dX11_embeddings_73 ⟨Nat.le_of_ble_eq_true rfl, Nat.le_of_ble_eq_true rfl, Nat.le_of_ble_eq_true rfl, Nat.le_of_ble_eq_true rfl, Nat.le_of_ble_eq_true rfl⟩ (as := [.long (e2 v)]) rfl rfl (c_R_lengthOf hl v hv (Nat.le_trans hvn (by decide))) ?_
    refine ev_iN_ge dX11_embeddings_76 (tgt := 143) (by decide) (by omega) (by omega) (fun q76 => ?_) (fun q76 => ?_)
    · refine ev_blk (B := [(.aload_n 0, 1)]) (pe := 144) (ls' := [some (.ref (o)), some (.int (nI k)), some (.long (e2 u)), none, some (.long (e2 v)), none, some (.int (nI i)), none]) (st' := [.ref (o)]) ⟨dX11_embeddings_143, rfl⟩ rfl ?_
      refine ev_getf (v := .ref (o + 6)) F_RX11_26 dX11_embeddings_144 hO rfl ?_
      refine ev_blk (B := [(.lload_n 2, 1)]) (pe := 148) (ls' := [some (.ref (o)), some (.int (nI k)), some (.long (e2 u)), none, some (.long (e2 v)), none, some (.int (nI i)), none]) (st' := [.long (e2 u), .ref (o + 6)]) ⟨dX11_embeddings_147, rfl⟩ rfl ?_
      refine ev_cSv Y_X11_lengthOf L_RX11_111 dX11_embeddings_148 ⟨Nat.le_of_ble_eq_true rfl, Nat.le_of_ble_eq_true rfl, Nat.le_of_ble_eq_true rfl, Nat.le_of_ble_eq_true rfl, Nat.le_of_ble_eq_true rfl⟩ (as := [.long (e2 u)]) rfl rfl (c_R_lengthOf hl u hu (Nat.le_trans hun (by decide))) ?_
      refine ev_iald dX11_embeddings_151 h6 (vp_in_nI (show u.length < 12 by omega) (by omega)) ?_
      rw [nI_clamp (show u.length < 2 ^ 31 by omega)]
      rw [show f u.length = nI (em u v v.length u.length) from by rw [ha _ (Nat.le_refl _), show i = v.length by omega]]
      refine ev_iret dX11_embeddings_152 rfl (rfl) ⟨Nat.le_of_ble_eq_true rfl, Nat.le_of_ble_eq_true rfl⟩ ?_
      exact ⟨rfl, hO, ⟨f, h6⟩, hF⟩
    · refine ev_blk (B := [(.lload_n 2, 1)]) (pe := 80) (ls' := [some (.ref (o)), some (.int (nI k)), some (.long (e2 u)), none, some (.long (e2 v)), none, some (.int (nI i)), none]) (st' := [.long (e2 u)]) ⟨dX11_embeddings_79, rfl⟩ rfl ?_
      refine ev_cSv Y_X11_lengthOf L_RX11_111 dX11_embeddings_80 ⟨Nat.le_of_ble_eq_true rfl, Nat.le_of_ble_eq_true rfl, Nat.le_of_ble_eq_true rfl, Nat.le_of_ble_eq_true rfl, Nat.le_of_ble_eq_true rfl⟩ (as := [.long (e2 u)]) rfl rfl (c_R_lengthOf hl u hu (Nat.le_trans hun (by decide))) ?_
      refine ev_blk (B := [(.istore 7, 2)]) (pe := 85) (ls' := [some (.ref (o)), some (.int (nI k)), some (.long (e2 u)), none, some (.long (e2 v)), none, some (.int (nI i)), some (.int (nI (u.length)))]) (st' := []) ⟨dX11_embeddings_83, rfl⟩ rfl ?_
      refine c_R_emb_i hl o zi zl u hu hun v hv hvn k M0 i (by omega) _ (fun M1 f1 j hO1 h61 hF1 ha1 => ?_) _ u.length M f (Nat.le_refl _) hO h6 hF ha (fun q h1 h2 => absurd h1 (by omega)) (Nat.lt_succ_self _)
      refine ev_blk (B := [(.iinc 6 1, 3)]) (pe := 140) (ls' := [some (.ref (o)), some (.int (nI k)), some (.long (e2 u)), none, some (.long (e2 v)), none, some (.int (nI (i + 1))), some (.int (nI j))]) (st' := []) ⟨dX11_embeddings_137, rfl⟩ (by show some (([some (.ref (o)), some (.int (nI k)), some (.long (e2 u)), none, some (.long (e2 v)), none, some (.int (nI i + Int32.ofInt 1)), some (.int (nI j))] : ev_L), ([] : List Value)) = _; rw [ev_inc1]) ?_
      refine ev_goto (tgt := 69) dX11_embeddings_140 (by decide) ?_
      refine ev_fgt (ls' := [some (.ref (o)), some (.int (nI k)), some (.long (e2 u)), none, some (.long (e2 v)), none, some (.int (nI (i + 1))), none]) ⟨Or.inr rfl, Or.inr rfl, Or.inr rfl, Or.inl rfl, Or.inr rfl, Or.inl rfl, Or.inr rfl, Or.inl rfl, trivial⟩ ?_
      exact ih (i + 1) M1 f1 (by omega) hO1 h61 hF1 ha1 (by omega)

set_option maxHeartbeats 4000000 in
set_option maxRecDepth 100000 in
theorem c_R_emb_0 {l : Launch} (hl : l.stackTraces = false)  (o : Nat) (zi : Nat → Int32) (zl : Nat → Int64) (u : List Nat) (hu : wk u) (hun : u.length ≤ 10) (v : List Nat) (hv : wk v) (hvn : v.length ≤ 10) (k : Nat) (M0 : ev_M) : ∀ (n9 : Nat) (i : Nat) (M : ev_M) (f : Nat → Int32), i ≤ 11 → M[o]? = some (.inr (10, zo o zi zl)) → M[o + 6]? = some (.inl (0, 12, .inl f)) → FX o (o + 6) (o + 7) M0 M → (∀ q, q < i → f q = nI (em u v 0 q)) → 11 - i < n9 → ev_ l m_X11_embeddings 0 0 36 [some (.ref (o)), some (.int (nI k)), some (.long (e2 u)), none, some (.long (e2 v)), none, some (.int (nI i)), none] [] M (fun r M1 => r = .inl (some (.int (nI (em u v v.length u.length)))) ∧ M1[o]? = some (.inr (10, zo o zi zl)) ∧ (∃ f, M1[o + 6]? = some (.inl (0, 12, .inl f))) ∧ FX o (o + 6) (o + 7) M0 M1) := by
  intro n9
  induction n9 with
  | zero => intro i M f hi hO h6 hF ha hm9; exact absurd hm9 (by omega)
  | succ n9 ih =>
    intro i M f hi hO h6 hF ha hm9
    refine ev_blk (B := [(.iload 6, 2), (.bipush 10, 2)]) (pe := 40) (ls' := [some (.ref (o)), some (.int (nI k)), some (.long (e2 u)), none, some (.long (e2 v)), none, some (.int (nI i)), none]) (st' := [.int (nI 10), .int (nI i)]) ⟨dX11_embeddings_36, dX11_embeddings_38, rfl⟩ rfl ?_
    refine ev_iN_gt dX11_embeddings_40 (tgt := 66) (by decide) (by omega) (by omega) (fun q40 => ?_) (fun q40 => ?_)
    · refine ev_blk (B := [(.iconst 0, 1), (.istore 6, 2)]) (pe := 69) (ls' := [some (.ref (o)), some (.int (nI k)), some (.long (e2 u)), none, some (.long (e2 v)), none, some (.int (nI 0)), none]) (st' := []) ⟨dX11_embeddings_66, dX11_embeddings_67, rfl⟩ rfl ?_
      exact c_R_emb_l hl o zi zl u hu hun v hv hvn k M0 _ 0 M f (Nat.zero_le _) hO h6 hF (fun q hq => ha q (by omega)) (Nat.lt_succ_self _)
    · refine ev_blk (B := [(.aload_n 0, 1)]) (pe := 44) (ls' := [some (.ref (o)), some (.int (nI k)), some (.long (e2 u)), none, some (.long (e2 v)), none, some (.int (nI i)), none]) (st' := [.ref (o)]) ⟨dX11_embeddings_43, rfl⟩ rfl ?_
      refine ev_getf (v := .ref (o + 6)) F_RX11_26 dX11_embeddings_44 hO rfl ?_
      refine ev_blk (B := [(.iload 6, 2), (.iload 6, 2)]) (pe := 51) (ls' := [some (.ref (o)), some (.int (nI k)), some (.long (e2 u)), none, some (.long (e2 v)), none, some (.int (nI i)), none]) (st' := [.int (nI i), .int (nI i), .ref (o + 6)]) ⟨dX11_embeddings_47, dX11_embeddings_49, rfl⟩ rfl ?_
      refine ev_fN_ne dX11_embeddings_51 (tgt := 58) (by decide) (by omega) (fun q51 => ?_) (fun q51 => ?_)
      · refine ev_blk (B := [(.iconst 0, 1)]) (pe := 59) (ls' := [some (.ref (o)), some (.int (nI k)), some (.long (e2 u)), none, some (.long (e2 v)), none, some (.int (nI i)), none]) (st' := [.int (nI 0), .int (nI i), .ref (o + 6)]) ⟨dX11_embeddings_58, rfl⟩ rfl ?_
        refine ev_iast dX11_embeddings_59 h6 (vp_in_nI (show i < 12 by omega) (by omega)) ?_
        rw [nI_clamp (show i < 2 ^ 31 by omega)]
        refine ev_nm (M0 := M.set (o + 6) (.inl (0, 12, .inl (upd f i (nI 0))))) (fun M1 eM1 => ?_)
        have f2 : M1[o]? = some (.inr (10, zo o (zi) (zl))) := by rw [eM1, ev_sn (by omega)]; exact hO
        have f3 : M1[o + 6]? = some (.inl (0, 12, .inl (upd f i (nI 0)))) := by rw [eM1]; exact ev_sg h6
        refine ev_blk (B := [(.iinc 6 1, 3)]) (pe := 63) (ls' := [some (.ref (o)), some (.int (nI k)), some (.long (e2 u)), none, some (.long (e2 v)), none, some (.int (nI (i + 1))), none]) (st' := []) ⟨dX11_embeddings_60, rfl⟩ (by show some (([some (.ref (o)), some (.int (nI k)), some (.long (e2 u)), none, some (.long (e2 v)), none, some (.int ((nI i) + Int32.ofInt (1))), none] : ev_L), ([] : List Value)) = _; rw [ev_inc1 i]) ?_
        refine ev_goto (tgt := 36) dX11_embeddings_63 (by decide) ?_
        refine ih (i + 1) _ _ (by omega) f2 f3 (hF.tr ⟨by rw [eM1]; simp only [List.length_set], fun j hj1 hj2 => by rw [eM1, ev_sn (by omega)]⟩) (fun q h1 => ?_) (by omega)
        rw [upd_at]
        by_cases e : q = i
        · subst e; rw [if_pos rfl]; show _ = nI (if q = 0 then 1 else 0); first | rw [if_pos q51] | rw [if_neg q51]
        · rw [if_neg e]; exact ha q (by omega)
      · refine ev_blk (B := [(.iconst 1, 1)]) (pe := 55) (ls' := [some (.ref (o)), some (.int (nI k)), some (.long (e2 u)), none, some (.long (e2 v)), none, some (.int (nI i)), none]) (st' := [.int (nI 1), .int (nI i), .ref (o + 6)]) ⟨dX11_embeddings_54, rfl⟩ rfl ?_
        refine ev_goto (tgt := 59) dX11_embeddings_55 (by decide) ?_
        refine ev_iast dX11_embeddings_59 h6 (vp_in_nI (show i < 12 by omega) (by omega)) ?_
        rw [nI_clamp (show i < 2 ^ 31 by omega)]
        refine ev_nm (M0 := M.set (o + 6) (.inl (0, 12, .inl (upd f i (nI 1))))) (fun M4 eM4 => ?_)
        have f5 : M4[o]? = some (.inr (10, zo o (zi) (zl))) := by rw [eM4, ev_sn (by omega)]; exact hO
        have f6 : M4[o + 6]? = some (.inl (0, 12, .inl (upd f i (nI 1)))) := by rw [eM4]; exact ev_sg h6
        refine ev_blk (B := [(.iinc 6 1, 3)]) (pe := 63) (ls' := [some (.ref (o)), some (.int (nI k)), some (.long (e2 u)), none, some (.long (e2 v)), none, some (.int (nI (i + 1))), none]) (st' := []) ⟨dX11_embeddings_60, rfl⟩ (by show some (([some (.ref (o)), some (.int (nI k)), some (.long (e2 u)), none, some (.long (e2 v)), none, some (.int ((nI i) + Int32.ofInt (1))), none] : ev_L), ([] : List Value)) = _; rw [ev_inc1 i]) ?_
        refine ev_goto (tgt := 36) dX11_embeddings_63 (by decide) ?_
        refine ih (i + 1) _ _ (by omega) f5 f6 (hF.tr ⟨by rw [eM4]; simp only [List.length_set], fun j hj1 hj2 => by rw [eM4, ev_sn (by omega)]⟩) (fun q h1 => ?_) (by omega)
        rw [upd_at]
        by_cases e : q = i
        · subst e; rw [if_pos rfl]; show _ = nI (if q = 0 then 1 else 0); first | rw [if_pos q51] | rw [if_neg q51]
        · rw [if_neg e]; exact ha q (by omega)

set_option maxHeartbeats 4000000 in
set_option maxRecDepth 100000 in
theorem r_embeddings {l : Launch} (hl : l.stackTraces = false) {M : ev_M} (o : Nat) (S : St) (hS : okS S) (hT10 : S.T.length ≤ 10) (hG3 : S.G.length ≤ 3) (hH20 : S.H.length ≤ 20) (zi : Nat → Int32) (zl : Nat → Int64) (hR : RR M o S zi zl) (a : Int32) : ev_Mt l m_X11_embeddings [.ref (o), .int (a)] M (fun r M1 => r = .inl (some (.int (sEmb S a).2)) ∧ ∃ zi' zl', RR M1 o S zi' zl' ∧ zi' 0 = nI (sEmb S a).1 ∧ Fr o (o + 31) M M1) := by
  rcases inR_c a 2 (by omega) with ⟨k, hk, rfl⟩ | ia
  · have jk : inR (nI k) 2 = true := inR_n hk (by omega)
    have tk : (nI k).toNatClampNeg = k := nI_clamp (by omega)
    have hcw := cw_ok hS.x k
    have hcv := cw_ok hS.x (1 - k)
    refine ev_body hl rfl (by decide +kernel) (Nat.le_of_ble_eq_true rfl) ?_
    show ev_ l m_X11_embeddings 0 0 0 [some (.ref (o)), some (.int (nI k)), none, none, none, none, none, none] [] M _
    refine ev_blk (B := [(.iload_n 1, 1)]) (pe := 1) (ls' := [some (.ref (o)), some (.int (nI k)), none, none, none, none, none, none]) (st' := [.int (nI k)]) ⟨dX11_embeddings_0, rfl⟩ rfl ?_
    refine ev_cSv Y_X11_isChannel L_RX11_138 dX11_embeddings_1 ⟨Nat.le_of_ble_eq_true rfl, Nat.le_of_ble_eq_true rfl, Nat.le_of_ble_eq_true rfl, Nat.le_of_ble_eq_true rfl, Nat.le_of_ble_eq_true rfl⟩ (as := [.int (nI k)]) rfl rfl (c_R_isChannel hl (nI k)) ?_
    refine ev_ifB_ne dX11_embeddings_4 (tgt := 13) (by decide) (fun q4 => ?_) (fun q4 => ?_)
    · refine ev_blk (B := [(.aload_n 0, 1), (.iconst 0, 1)]) (pe := 15) (ls' := [some (.ref (o)), some (.int (nI k)), none, none, none, none, none, none]) (st' := [.int (nI 0), .ref (o)]) ⟨dX11_embeddings_13, dX11_embeddings_14, rfl⟩ rfl ?_
      refine ev_put F_RX11_106 dX11_embeddings_15 hR.z (Nat.le_of_ble_eq_true rfl) (fun _ _ => ⟨rfl, rfl⟩) ?_
      rw [zs_0]
      refine ev_nm (M0 := M.set (o) (.inr (10, zo o (ui (zi) 0 (nI 0)) (zl)))) (fun M1 eM1 => ?_)
      have f2 : M1[o]? = some (.inr (10, zo o (ui (zi) 0 (nI 0)) (zl))) := by rw [eM1]; exact ev_sg hR.z
      refine ev_blk (B := [(.aload_n 0, 1), (.iload_n 1, 1)]) (pe := 20) (ls' := [some (.ref (o)), some (.int (nI k)), none, none, none, none, none, none]) (st' := [.int (nI k), .ref (o)]) ⟨dX11_embeddings_18, dX11_embeddings_19, rfl⟩ rfl ?_
      refine ev_cVv Y_X11_wordOf L_RX11_172 dX11_embeddings_20 ⟨Nat.le_of_ble_eq_true rfl, Nat.le_of_ble_eq_true rfl, Nat.le_of_ble_eq_true rfl, Nat.le_of_ble_eq_true rfl, Nat.le_of_ble_eq_true rfl⟩ f2 (as := [.int (nI k)]) rfl rfl (c_R_wordOf hl o (ui (zi) 0 (nI 0)) (zl) f2 S.x hR.p.2.2.2.1 hR.p.2.2.2.2.1 k hk) ?_
      refine ev_blk (B := [(.lstore_n 2, 1), (.aload_n 0, 1), (.iconst 1, 1), (.iload_n 1, 1), (.isub, 1)]) (pe := 28) (ls' := [some (.ref (o)), some (.int (nI k)), some (.long (e2 (cw S.x k))), none, none, none, none, none]) (st' := [.int (nI (1 - k)), .ref (o)]) ⟨dX11_embeddings_23, dX11_embeddings_24, dX11_embeddings_25, dX11_embeddings_26, dX11_embeddings_27, rfl⟩ (by show some (([some (.ref (o)), some (.int (nI k)), some (.long (e2 (cw S.x k))), none, none, none, none, none] : ev_L), ([.int ((nI 1) - (nI k)), .ref (o)] : List Value)) = _; rw [pk_sub (show k ≤ 1 by omega)]) ?_
      refine ev_cVv Y_X11_wordOf L_RX11_172 dX11_embeddings_28 ⟨Nat.le_of_ble_eq_true rfl, Nat.le_of_ble_eq_true rfl, Nat.le_of_ble_eq_true rfl, Nat.le_of_ble_eq_true rfl, Nat.le_of_ble_eq_true rfl⟩ f2 (as := [.int (nI (1 - k))]) rfl rfl (c_R_wordOf hl o (ui (zi) 0 (nI 0)) (zl) f2 S.x hR.p.2.2.2.1 hR.p.2.2.2.2.1 (1 - k) (by omega)) ?_
      refine ev_blk (B := [(.lstore 4, 2), (.iconst 0, 1), (.istore 6, 2)]) (pe := 36) (ls' := [some (.ref (o)), some (.int (nI k)), some (.long (e2 (cw S.x k))), none, some (.long (e2 (cw S.x (1 - k)))), none, some (.int (nI 0)), none]) (st' := []) ⟨dX11_embeddings_31, dX11_embeddings_33, dX11_embeddings_34, rfl⟩ rfl ?_
      have W3 : FX o (o + 31) (o + 31) M M1 := ⟨by rw [eM1]; simp only [List.length_set], fun j hj1 hj2 => by rw [eM1, ev_sn (by omega)]⟩
      obtain ⟨yf, yg, y6, y7⟩ := (hR.y.fx W3 (by omega))
      refine ev_mono (fun r M9 hq => ?_) (c_R_emb_0 hl o (ui (zi) 0 (nI 0)) (zl) (cw S.x k) hcw.1 hcw.2 (cw S.x (1 - k)) hcv.1 hcv.2 k M1 _ 0 _ yf (by omega) f2 y6 FX.rf (fun q hq => absurd hq (Nat.not_lt_zero _)) (Nat.lt_succ_self _))
      obtain ⟨q1, q2, ⟨f9, q3⟩, q4⟩ := hq
      have e9 : sEmb S (nI k) = (0, nI (em (cw S.x k) (cw S.x (1 - k)) (cw S.x (1 - k)).length (cw S.x k).length)) := by simp [sEmb, jk, tk]
      rw [e9]
      exact ⟨q1, _, _, hR.ky q2 ⟨fun k hk => ui_ne (nm hk (by decide)), fun k hk => rfl⟩ ((W3.em (by omega)).tr (q4.to (Nat.le_refl _) (by omega))) (PY.of q3 (q4.at y7 (by omega) (by omega))), rfl, FX.fr ((W3.em (by omega)).tr (q4.to (by omega) (by omega))) (lo := o + 1) (hi := o + 31) (by omega) (by omega)⟩
    · exact absurd (jk.symm.trans q4) (by decide)
  · have ia9 := ia
    refine ev_body hl rfl (by decide +kernel) (Nat.le_of_ble_eq_true rfl) ?_
    show ev_ l m_X11_embeddings 0 0 0 [some (.ref (o)), some (.int (a)), none, none, none, none, none, none] [] M _
    refine ev_blk (B := [(.iload_n 1, 1)]) (pe := 1) (ls' := [some (.ref (o)), some (.int (a)), none, none, none, none, none, none]) (st' := [.int (a)]) ⟨dX11_embeddings_0, rfl⟩ rfl ?_
    refine ev_cSv Y_X11_isChannel L_RX11_138 dX11_embeddings_1 ⟨Nat.le_of_ble_eq_true rfl, Nat.le_of_ble_eq_true rfl, Nat.le_of_ble_eq_true rfl, Nat.le_of_ble_eq_true rfl, Nat.le_of_ble_eq_true rfl⟩ (as := [.int (a)]) rfl rfl (c_R_isChannel hl a) ?_
    refine ev_ifB_ne dX11_embeddings_4 (tgt := 13) (by decide) (fun q4 => ?_) (fun q4 => ?_)
    · exact absurd (ia.symm.trans q4) (by decide)
    · refine ev_blk (B := [(.aload_n 0, 1), (.iconst 1, 1)]) (pe := 9) (ls' := [some (.ref (o)), some (.int (a)), none, none, none, none, none, none]) (st' := [.int (nI 1), .ref (o)]) ⟨dX11_embeddings_7, dX11_embeddings_8, rfl⟩ rfl ?_
      refine ev_cVv Y_X11_fails L_RX11_144 dX11_embeddings_9 ⟨Nat.le_of_ble_eq_true rfl, Nat.le_of_ble_eq_true rfl, Nat.le_of_ble_eq_true rfl, Nat.le_of_ble_eq_true rfl, Nat.le_of_ble_eq_true rfl⟩ hR.z (as := [.int (nI 1)]) rfl rfl (c_R_fails hl o (zi) (zl) hR.z 1) ?_
      refine ev_nm (M0 := M.set o (.inr (10, zo o (ui (zi) 0 (nI 1)) (zl)))) (fun Mf eMf => ?_)
      have ff : Mf[o]? = some (.inr (10, zo o (ui (zi) 0 (nI 1)) (zl))) := by rw [eMf]; exact ev_sg hR.z
      refine ev_iret dX11_embeddings_12 rfl (rfl) ⟨Nat.le_of_ble_eq_true rfl, Nat.le_of_ble_eq_true rfl⟩ ?_
      have W4 : FX o (o + 31) (o + 31) M Mf := ⟨by rw [eMf]; simp only [List.length_set], fun j hj1 hj2 => by rw [eMf, ev_sn (by omega)]⟩
      have e9 : sEmb S a = (1, 0) := by simp [sEmb, ia, q4]
      rw [e9]
      exact ⟨rfl, _, _, ⟨ff, ⟨hR.p.1, hR.p.2.1, hR.p.2.2.1, hR.p.2.2.2.1, hR.p.2.2.2.2.1, hR.p.2.2.2.2.2.1, hR.p.2.2.2.2.2.2.1, hR.p.2.2.2.2.2.2.2.1, hR.p.2.2.2.2.2.2.2.2.1, hR.p.2.2.2.2.2.2.2.2.2⟩, (hR.T.fx W4 (by omega) (by omega)), (hR.H.fx W4 (by omega)), (hR.y.fx W4 (by omega)), (hR.G.fx W4 (by omega) (by omega)), (hR.a.fx W4 (by omega)), (hR.u.fx W4 (by omega)), (hR.x.fx W4 (by omega)), (hR.k.fx W4 (by omega)), (hR.s.fx W4 (by omega))⟩, rfl, (FX.fr (lo := o + 1) (hi := o + 31) (W4.to (by omega) (by omega)) (by omega) (by omega))⟩

set_option maxHeartbeats 4000000 in
set_option maxRecDepth 100000 in
theorem c_R_com_i {l : Launch} (hl : l.stackTraces = false) (g : Nat → Int32) (o : Nat) (zi : Nat → Int32) (zl : Nat → Int64) (u : List Nat) (hu : wk u) (hun : u.length ≤ 10) (v : List Nat) (hv : wk v) (hvn : v.length ≤ 10) (z5 : zl 5 = e2 u) (z6 : zl 6 = e2 v) (M0 : ev_M) (i : Nat) (hi : i < u.length) (Q : ev_R → ev_M → Prop) (hk : ∀ (M : ev_M) (f g : Nat → Int32) (j : Nat) (x : Option Value), M[o]? = some (.inr (10, zo o zi zl)) → M[o + 6]? = some (.inl (0, 12, .inl f)) → M[o + 7]? = some (.inl (0, 12, .inl g)) → FX o (o + 6) (o + 8) M0 M → (∀ q, q ≤ v.length → f q = nI (lc u v (i + 1) q)) → ev_ l m_X11_common 0 0 158 [some (.ref (o)), some (.int (nI i)), some (.int (nI j)), none] [] M Q) : ∀ (n9 : Nat) (j : Nat) (M : ev_M) (f : Nat → Int32), j ≤ v.length → M[o]? = some (.inr (10, zo o zi zl)) → M[o + 6]? = some (.inl (0, 12, .inl f)) → M[o + 7]? = some (.inl (0, 12, .inl g)) → FX o (o + 6) (o + 8) M0 M → (∀ q, q ≤ j → f q = nI (lc u v (i + 1) q)) → (∀ q, q ≤ v.length → g q = nI (lc u v i q)) → v.length - j < n9 → ev_ l m_X11_common 0 0 67 [some (.ref (o)), some (.int (nI i)), some (.int (nI j)), none] [] M (Q) := by
  intro n9
  induction n9 with
  | zero => intro j M f hj hO h6 h7 hF ha hg hm9; exact absurd hm9 (by omega)
  | succ n9 ih =>
    intro j M f hj hO h6 h7 hF ha hg hm9
    have z1 := lc_le u v i
    have z2 := lc_le u v (i + 1)
    have z3 := z1 (j + 1)
    have z4 := z1 j
    have z8 := z2 j
    refine ev_blk (B := [(.iload_n 2, 1), (.aload_n 0, 1)]) (pe := 69) (ls' := [some (.ref (o)), some (.int (nI i)), some (.int (nI j)), none]) (st' := [.ref (o), .int (nI j)]) ⟨dX11_common_67, dX11_common_68, rfl⟩ rfl ?_
    refine ev_getf (v := .long (e2 v)) F_RX11_163 dX11_common_69 hO (congrArg (fun q => some (Value.long q)) z6) ?_
    refine ev_cSv Y_X11_lengthOf L_RX11_111 dX11_common_72 ⟨Nat.le_of_ble_eq_true rfl, Nat.le_of_ble_eq_true rfl, Nat.le_of_ble_eq_true rfl, Nat.le_of_ble_eq_true rfl, Nat.le_of_ble_eq_true rfl⟩ (as := [.long (e2 v)]) rfl rfl (c_R_lengthOf hl v hv (Nat.le_trans hvn (by decide))) ?_
    refine ev_iN_ge dX11_common_75 (tgt := 158) (by decide) (by first | omega | (have := hu _ (List.getElem_mem (show i < u.length by omega)); omega) | (have := hv _ (List.getElem_mem (show j < v.length by omega)); omega)) (by first | omega | (have := hu _ (List.getElem_mem (show i < u.length by omega)); omega) | (have := hv _ (List.getElem_mem (show j < v.length by omega)); omega)) (fun q75 => ?_) (fun q75 => ?_)
    · exact hk M f g j none hO h6 h7 hF (fun q h1 => ha q (by omega))
    · refine ev_blk (B := [(.aload_n 0, 1)]) (pe := 79) (ls' := [some (.ref (o)), some (.int (nI i)), some (.int (nI j)), none]) (st' := [.ref (o)]) ⟨dX11_common_78, rfl⟩ rfl ?_
      refine ev_getf (v := .ref (o + 7)) F_RX11_29 dX11_common_79 hO rfl ?_
      refine ev_blk (B := [(.iload_n 2, 1), (.iconst 1, 1), (.iadd, 1)]) (pe := 85) (ls' := [some (.ref (o)), some (.int (nI i)), some (.int (nI j)), none]) (st' := [.int (nI (j + 1)), .ref (o + 7)]) ⟨dX11_common_82, dX11_common_83, dX11_common_84, rfl⟩ (by show some (([some (.ref (o)), some (.int (nI i)), some (.int (nI j)), none] : ev_L), ([.int ((nI j) + (nI 1)), .ref (o + 7)] : List Value)) = _; rw [nI_add j 1]) ?_
      refine ev_iald dX11_common_85 h7 (vp_in_nI (show j + 1 < 12 by omega) (by omega)) ?_
      rw [nI_clamp (show j + 1 < 2 ^ 31 by omega)]
      rw [show g (j + 1) = nI (lc u v i (j + 1)) from hg (j + 1) (by omega)]
      refine ev_blk (B := [(.aload_n 0, 1)]) (pe := 87) (ls' := [some (.ref (o)), some (.int (nI i)), some (.int (nI j)), none]) (st' := [.ref (o), .int (nI (lc u v i (j + 1)))]) ⟨dX11_common_86, rfl⟩ rfl ?_
      refine ev_getf (v := .ref (o + 6)) F_RX11_26 dX11_common_87 hO rfl ?_
      refine ev_blk (B := [(.iload_n 2, 1)]) (pe := 91) (ls' := [some (.ref (o)), some (.int (nI i)), some (.int (nI j)), none]) (st' := [.int (nI j), .ref (o + 6), .int (nI (lc u v i (j + 1)))]) ⟨dX11_common_90, rfl⟩ rfl ?_
      refine ev_iald dX11_common_91 h6 (vp_in_nI (show j < 12 by omega) (by omega)) ?_
      rw [nI_clamp (show j < 2 ^ 31 by omega)]
      rw [show f j = nI (lc u v (i + 1) j) from ha j (Nat.le_refl _)]
      refine ev_iN_le dX11_common_92 (tgt := 106) (by decide) (by first | omega | (have := hu _ (List.getElem_mem (show i < u.length by omega)); omega) | (have := hv _ (List.getElem_mem (show j < v.length by omega)); omega)) (by first | omega | (have := hu _ (List.getElem_mem (show i < u.length by omega)); omega) | (have := hv _ (List.getElem_mem (show j < v.length by omega)); omega)) (fun q92 => ?_) (fun q92 => ?_)
      · refine ev_blk (B := [(.aload_n 0, 1)]) (pe := 107) (ls' := [some (.ref (o)), some (.int (nI i)), some (.int (nI j)), none]) (st' := [.ref (o)]) ⟨dX11_common_106, rfl⟩ rfl ?_
        refine ev_getf (v := .ref (o + 6)) F_RX11_26 dX11_common_107 hO rfl ?_
        refine ev_blk (B := [(.iload_n 2, 1)]) (pe := 111) (ls' := [some (.ref (o)), some (.int (nI i)), some (.int (nI j)), none]) (st' := [.int (nI j), .ref (o + 6)]) ⟨dX11_common_110, rfl⟩ rfl ?_
        refine ev_iald dX11_common_111 h6 (vp_in_nI (show j < 12 by omega) (by omega)) ?_
        rw [nI_clamp (show j < 2 ^ 31 by omega)]
        rw [show f j = nI (lc u v (i + 1) j) from ha j (Nat.le_refl _)]
        refine ev_eqst (st := [.int (nI (max (lc u v i (j + 1)) (lc u v (i + 1) j)))]) (congrArg (fun z => [Value.int (nI z)]) (show lc u v (i + 1) j = max (lc u v i (j + 1)) (lc u v (i + 1) j) by omega)) ?_
        refine ev_blk (B := [(.istore_n 3, 1), (.aload_n 0, 1)]) (pe := 114) (ls' := [some (.ref (o)), some (.int (nI i)), some (.int (nI j)), some (.int (nI (max (lc u v i (j + 1)) (lc u v (i + 1) j))))]) (st' := [.ref (o)]) ⟨dX11_common_112, dX11_common_113, rfl⟩ rfl ?_
        refine ev_getf (v := .ref (o + 6)) F_RX11_26 dX11_common_114 hO rfl ?_
        refine ev_blk (B := [(.iload_n 2, 1), (.iconst 1, 1), (.iadd, 1), (.aload_n 0, 1)]) (pe := 121) (ls' := [some (.ref (o)), some (.int (nI i)), some (.int (nI j)), some (.int (nI (max (lc u v i (j + 1)) (lc u v (i + 1) j))))]) (st' := [.ref (o), .int (nI (j + 1)), .ref (o + 6)]) ⟨dX11_common_117, dX11_common_118, dX11_common_119, dX11_common_120, rfl⟩ (by show some (([some (.ref (o)), some (.int (nI i)), some (.int (nI j)), some (.int (nI (max (lc u v i (j + 1)) (lc u v (i + 1) j))))] : ev_L), ([.ref (o), .int ((nI j) + (nI 1)), .ref (o + 6)] : List Value)) = _; rw [nI_add j 1]) ?_
        refine ev_getf (v := .long (e2 u)) F_RX11_159 dX11_common_121 hO (congrArg (fun q => some (Value.long q)) z5) ?_
        refine ev_blk (B := [(.iload_n 1, 1)]) (pe := 125) (ls' := [some (.ref (o)), some (.int (nI i)), some (.int (nI j)), some (.int (nI (max (lc u v i (j + 1)) (lc u v (i + 1) j))))]) (st' := [.int (nI i), .long (e2 u), .int (nI (j + 1)), .ref (o + 6)]) ⟨dX11_common_124, rfl⟩ rfl ?_
        refine ev_cSv Y_X11_letterAt L_RX11_119 dX11_common_125 ⟨Nat.le_of_ble_eq_true rfl, Nat.le_of_ble_eq_true rfl, Nat.le_of_ble_eq_true rfl, Nat.le_of_ble_eq_true rfl, Nat.le_of_ble_eq_true rfl⟩ (as := [.long (e2 u), .int (nI i)]) rfl rfl (c_R_letterAt hl u hu (Nat.le_trans hun (by decide)) i (by omega)) ?_
        refine ev_blk (B := [(.aload_n 0, 1)]) (pe := 129) (ls' := [some (.ref (o)), some (.int (nI i)), some (.int (nI j)), some (.int (nI (max (lc u v i (j + 1)) (lc u v (i + 1) j))))]) (st' := [.ref (o), .int (nI (u[i])), .int (nI (j + 1)), .ref (o + 6)]) ⟨dX11_common_128, rfl⟩ rfl ?_
        refine ev_getf (v := .long (e2 v)) F_RX11_163 dX11_common_129 hO (congrArg (fun q => some (Value.long q)) z6) ?_
        refine ev_blk (B := [(.iload_n 2, 1)]) (pe := 133) (ls' := [some (.ref (o)), some (.int (nI i)), some (.int (nI j)), some (.int (nI (max (lc u v i (j + 1)) (lc u v (i + 1) j))))]) (st' := [.int (nI j), .long (e2 v), .int (nI (u[i])), .int (nI (j + 1)), .ref (o + 6)]) ⟨dX11_common_132, rfl⟩ rfl ?_
        refine ev_cSv Y_X11_letterAt L_RX11_119 dX11_common_133 ⟨Nat.le_of_ble_eq_true rfl, Nat.le_of_ble_eq_true rfl, Nat.le_of_ble_eq_true rfl, Nat.le_of_ble_eq_true rfl, Nat.le_of_ble_eq_true rfl⟩ (as := [.long (e2 v), .int (nI j)]) rfl rfl (c_R_letterAt hl v hv (Nat.le_trans hvn (by decide)) j (by omega)) ?_
        refine ev_iN_ne dX11_common_136 (tgt := 150) (by decide) (by first | omega | (have := hu _ (List.getElem_mem (show i < u.length by omega)); omega) | (have := hv _ (List.getElem_mem (show j < v.length by omega)); omega)) (by first | omega | (have := hu _ (List.getElem_mem (show i < u.length by omega)); omega) | (have := hv _ (List.getElem_mem (show j < v.length by omega)); omega)) (fun q136 => ?_) (fun q136 => ?_)
        · refine ev_blk (B := [(.iload_n 3, 1)]) (pe := 151) (ls' := [some (.ref (o)), some (.int (nI i)), some (.int (nI j)), some (.int (nI (max (lc u v i (j + 1)) (lc u v (i + 1) j))))]) (st' := [.int (nI (max (lc u v i (j + 1)) (lc u v (i + 1) j))), .int (nI (j + 1)), .ref (o + 6)]) ⟨dX11_common_150, rfl⟩ rfl ?_
          refine ev_iast dX11_common_151 h6 (vp_in_nI (show j + 1 < 12 by omega) (by omega)) ?_
          rw [nI_clamp (show j + 1 < 2 ^ 31 by omega)]
          refine ev_nm (M0 := M.set (o + 6) (.inl (0, 12, .inl (upd f (j + 1) (nI (max (lc u v i (j + 1)) (lc u v (i + 1) j))))))) (fun M1 eM1 => ?_)
          have f2 : M1[o]? = some (.inr (10, zo o (zi) (zl))) := by rw [eM1, ev_sn (by omega)]; exact hO
          have f3 : M1[o + 6]? = some (.inl (0, 12, .inl (upd f (j + 1) (nI (max (lc u v i (j + 1)) (lc u v (i + 1) j)))))) := by rw [eM1]; exact ev_sg h6
          have f4 : M1[o + 7]? = some (.inl (0, 12, .inl (g))) := by rw [eM1, ev_sn (by omega)]; exact h7
          refine ev_blk (B := [(.iinc 2 1, 3)]) (pe := 155) (ls' := [some (.ref (o)), some (.int (nI i)), some (.int (nI (j + 1))), some (.int (nI (max (lc u v i (j + 1)) (lc u v (i + 1) j))))]) (st' := []) ⟨dX11_common_152, rfl⟩ (by show some (([some (.ref (o)), some (.int (nI i)), some (.int ((nI j) + Int32.ofInt (1))), some (.int (nI (max (lc u v i (j + 1)) (lc u v (i + 1) j))))] : ev_L), ([] : List Value)) = _; rw [ev_inc1 j]) ?_
          refine ev_goto (tgt := 67) dX11_common_155 (by decide) ?_
          refine ev_fgt (ls' := [some (.ref (o)), some (.int (nI i)), some (.int (nI (j + 1))), none]) ⟨Or.inr rfl, Or.inr rfl, Or.inr rfl, Or.inl rfl, trivial⟩ ?_
          refine ih (j + 1) _ _ (by omega) f2 f3 f4 (hF.tr ⟨by rw [eM1]; simp only [List.length_set], fun j hj1 hj2 => by rw [eM1, ev_sn (by omega)]⟩) (fun q h1 => ?_) (fun q h1 => ?_) (by omega)
          · rw [upd_at]
            by_cases e : q = j + 1
            · subst e
              rw [if_pos rfl, lc_s, gd3 (by omega), gd3 (by omega)]
              first | rw [if_pos q136] | rw [if_neg q136]
            · rw [if_neg e]; exact ha q (by omega)
          · exact hg q h1
        · refine ev_blk (B := [(.aload_n 0, 1)]) (pe := 140) (ls' := [some (.ref (o)), some (.int (nI i)), some (.int (nI j)), some (.int (nI (max (lc u v i (j + 1)) (lc u v (i + 1) j))))]) (st' := [.ref (o), .int (nI (j + 1)), .ref (o + 6)]) ⟨dX11_common_139, rfl⟩ rfl ?_
          refine ev_getf (v := .ref (o + 7)) F_RX11_29 dX11_common_140 hO rfl ?_
          refine ev_blk (B := [(.iload_n 2, 1)]) (pe := 144) (ls' := [some (.ref (o)), some (.int (nI i)), some (.int (nI j)), some (.int (nI (max (lc u v i (j + 1)) (lc u v (i + 1) j))))]) (st' := [.int (nI j), .ref (o + 7), .int (nI (j + 1)), .ref (o + 6)]) ⟨dX11_common_143, rfl⟩ rfl ?_
          refine ev_iald dX11_common_144 h7 (vp_in_nI (show j < 12 by omega) (by omega)) ?_
          rw [nI_clamp (show j < 2 ^ 31 by omega)]
          rw [show g j = nI (lc u v i j) from hg j (by omega)]
          refine ev_blk (B := [(.iconst 1, 1), (.iadd, 1)]) (pe := 147) (ls' := [some (.ref (o)), some (.int (nI i)), some (.int (nI j)), some (.int (nI (max (lc u v i (j + 1)) (lc u v (i + 1) j))))]) (st' := [.int (nI ((lc u v i j) + 1)), .int (nI (j + 1)), .ref (o + 6)]) ⟨dX11_common_145, dX11_common_146, rfl⟩ (by show some (([some (.ref (o)), some (.int (nI i)), some (.int (nI j)), some (.int (nI (max (lc u v i (j + 1)) (lc u v (i + 1) j))))] : ev_L), ([.int ((nI (lc u v i j)) + (nI 1)), .int (nI (j + 1)), .ref (o + 6)] : List Value)) = _; rw [nI_add (lc u v i j) 1]) ?_
          refine ev_goto (tgt := 151) dX11_common_147 (by decide) ?_
          refine ev_iast dX11_common_151 h6 (vp_in_nI (show j + 1 < 12 by omega) (by omega)) ?_
          rw [nI_clamp (show j + 1 < 2 ^ 31 by omega)]
          refine ev_nm (M0 := M.set (o + 6) (.inl (0, 12, .inl (upd f (j + 1) (nI ((lc u v i j) + 1)))))) (fun M5 eM5 => ?_)
          have f6 : M5[o]? = some (.inr (10, zo o (zi) (zl))) := by rw [eM5, ev_sn (by omega)]; exact hO
          have f7 : M5[o + 6]? = some (.inl (0, 12, .inl (upd f (j + 1) (nI ((lc u v i j) + 1))))) := by rw [eM5]; exact ev_sg h6
          have f8 : M5[o + 7]? = some (.inl (0, 12, .inl (g))) := by rw [eM5, ev_sn (by omega)]; exact h7
          refine ev_blk (B := [(.iinc 2 1, 3)]) (pe := 155) (ls' := [some (.ref (o)), some (.int (nI i)), some (.int (nI (j + 1))), some (.int (nI (max (lc u v i (j + 1)) (lc u v (i + 1) j))))]) (st' := []) ⟨dX11_common_152, rfl⟩ (by show some (([some (.ref (o)), some (.int (nI i)), some (.int ((nI j) + Int32.ofInt (1))), some (.int (nI (max (lc u v i (j + 1)) (lc u v (i + 1) j))))] : ev_L), ([] : List Value)) = _; rw [ev_inc1 j]) ?_
          refine ev_goto (tgt := 67) dX11_common_155 (by decide) ?_
          refine ev_fgt (ls' := [some (.ref (o)), some (.int (nI i)), some (.int (nI (j + 1))), none]) ⟨Or.inr rfl, Or.inr rfl, Or.inr rfl, Or.inl rfl, trivial⟩ ?_
          refine ih (j + 1) _ _ (by omega) f6 f7 f8 (hF.tr ⟨by rw [eM5]; simp only [List.length_set], fun j hj1 hj2 => by rw [eM5, ev_sn (by omega)]⟩) (fun q h1 => ?_) (fun q h1 => ?_) (by omega)
          · rw [upd_at]
            by_cases e : q = j + 1
            · subst e
              rw [if_pos rfl, lc_s, gd3 (by omega), gd3 (by omega)]
              first | rw [if_pos q136] | rw [if_neg q136]
            · rw [if_neg e]; exact ha q (by omega)
          · exact hg q h1
      · refine ev_blk (B := [(.aload_n 0, 1)]) (pe := 96) (ls' := [some (.ref (o)), some (.int (nI i)), some (.int (nI j)), none]) (st' := [.ref (o)]) ⟨dX11_common_95, rfl⟩ rfl ?_
        refine ev_getf (v := .ref (o + 7)) F_RX11_29 dX11_common_96 hO rfl ?_
        refine ev_blk (B := [(.iload_n 2, 1), (.iconst 1, 1), (.iadd, 1)]) (pe := 102) (ls' := [some (.ref (o)), some (.int (nI i)), some (.int (nI j)), none]) (st' := [.int (nI (j + 1)), .ref (o + 7)]) ⟨dX11_common_99, dX11_common_100, dX11_common_101, rfl⟩ (by show some (([some (.ref (o)), some (.int (nI i)), some (.int (nI j)), none] : ev_L), ([.int ((nI j) + (nI 1)), .ref (o + 7)] : List Value)) = _; rw [nI_add j 1]) ?_
        refine ev_iald dX11_common_102 h7 (vp_in_nI (show j + 1 < 12 by omega) (by omega)) ?_
        rw [nI_clamp (show j + 1 < 2 ^ 31 by omega)]
        rw [show g (j + 1) = nI (lc u v i (j + 1)) from hg (j + 1) (by omega)]
        refine ev_goto (tgt := 112) dX11_common_103 (by decide) ?_
        refine ev_eqst (st := [.int (nI (max (lc u v i (j + 1)) (lc u v (i + 1) j)))]) (congrArg (fun z => [Value.int (nI z)]) (show lc u v i (j + 1) = max (lc u v i (j + 1)) (lc u v (i + 1) j) by omega)) ?_
        refine ev_blk (B := [(.istore_n 3, 1), (.aload_n 0, 1)]) (pe := 114) (ls' := [some (.ref (o)), some (.int (nI i)), some (.int (nI j)), some (.int (nI (max (lc u v i (j + 1)) (lc u v (i + 1) j))))]) (st' := [.ref (o)]) ⟨dX11_common_112, dX11_common_113, rfl⟩ rfl ?_
        refine ev_getf (v := .ref (o + 6)) F_RX11_26 dX11_common_114 hO rfl ?_
        refine ev_blk (B := [(.iload_n 2, 1), (.iconst 1, 1), (.iadd, 1), (.aload_n 0, 1)]) (pe := 121) (ls' := [some (.ref (o)), some (.int (nI i)), some (.int (nI j)), some (.int (nI (max (lc u v i (j + 1)) (lc u v (i + 1) j))))]) (st' := [.ref (o), .int (nI (j + 1)), .ref (o + 6)]) ⟨dX11_common_117, dX11_common_118, dX11_common_119, dX11_common_120, rfl⟩ (by show some (([some (.ref (o)), some (.int (nI i)), some (.int (nI j)), some (.int (nI (max (lc u v i (j + 1)) (lc u v (i + 1) j))))] : ev_L), ([.ref (o), .int ((nI j) + (nI 1)), .ref (o + 6)] : List Value)) = _; rw [nI_add j 1]) ?_
        refine ev_getf (v := .long (e2 u)) F_RX11_159 dX11_common_121 hO (congrArg (fun q => some (Value.long q)) z5) ?_
        refine ev_blk (B := [(.iload_n 1, 1)]) (pe := 125) (ls' := [some (.ref (o)), some (.int (nI i)), some (.int (nI j)), some (.int (nI (max (lc u v i (j + 1)) (lc u v (i + 1) j))))]) (st' := [.int (nI i), .long (e2 u), .int (nI (j + 1)), .ref (o + 6)]) ⟨dX11_common_124, rfl⟩ rfl ?_
        refine ev_cSv Y_X11_letterAt L_RX11_119 dX11_common_125 ⟨Nat.le_of_ble_eq_true rfl, Nat.le_of_ble_eq_true rfl, Nat.le_of_ble_eq_true rfl, Nat.le_of_ble_eq_true rfl, Nat.le_of_ble_eq_true rfl⟩ (as := [.long (e2 u), .int (nI i)]) rfl rfl (c_R_letterAt hl u hu (Nat.le_trans hun (by decide)) i (by omega)) ?_
        refine ev_blk (B := [(.aload_n 0, 1)]) (pe := 129) (ls' := [some (.ref (o)), some (.int (nI i)), some (.int (nI j)), some (.int (nI (max (lc u v i (j + 1)) (lc u v (i + 1) j))))]) (st' := [.ref (o), .int (nI (u[i])), .int (nI (j + 1)), .ref (o + 6)]) ⟨dX11_common_128, rfl⟩ rfl ?_
        refine ev_getf (v := .long (e2 v)) F_RX11_163 dX11_common_129 hO (congrArg (fun q => some (Value.long q)) z6) ?_
        refine ev_blk (B := [(.iload_n 2, 1)]) (pe := 133) (ls' := [some (.ref (o)), some (.int (nI i)), some (.int (nI j)), some (.int (nI (max (lc u v i (j + 1)) (lc u v (i + 1) j))))]) (st' := [.int (nI j), .long (e2 v), .int (nI (u[i])), .int (nI (j + 1)), .ref (o + 6)]) ⟨dX11_common_132, rfl⟩ rfl ?_
        refine ev_cSv Y_X11_letterAt L_RX11_119 dX11_common_133 ⟨Nat.le_of_ble_eq_true rfl, Nat.le_of_ble_eq_true rfl, Nat.le_of_ble_eq_true rfl, Nat.le_of_ble_eq_true rfl, Nat.le_of_ble_eq_true rfl⟩ (as := [.long (e2 v), .int (nI j)]) rfl rfl (c_R_letterAt hl v hv (Nat.le_trans hvn (by decide)) j (by omega)) ?_
        refine ev_iN_ne dX11_common_136 (tgt := 150) (by decide) (by first | omega | (have := hu _ (List.getElem_mem (show i < u.length by omega)); omega) | (have := hv _ (List.getElem_mem (show j < v.length by omega)); omega)) (by first | omega | (have := hu _ (List.getElem_mem (show i < u.length by omega)); omega) | (have := hv _ (List.getElem_mem (show j < v.length by omega)); omega)) (fun q136 => ?_) (fun q136 => ?_)
        · refine ev_blk (B := [(.iload_n 3, 1)]) (pe := 151) (ls' := [some (.ref (o)), some (.int (nI i)), some (.int (nI j)), some (.int (nI (max (lc u v i (j + 1)) (lc u v (i + 1) j))))]) (st' := [.int (nI (max (lc u v i (j + 1)) (lc u v (i + 1) j))), .int (nI (j + 1)), .ref (o + 6)]) ⟨dX11_common_150, rfl⟩ rfl ?_
          refine ev_iast dX11_common_151 h6 (vp_in_nI (show j + 1 < 12 by omega) (by omega)) ?_
          rw [nI_clamp (show j + 1 < 2 ^ 31 by omega)]
          refine ev_nm (M0 := M.set (o + 6) (.inl (0, 12, .inl (upd f (j + 1) (nI (max (lc u v i (j + 1)) (lc u v (i + 1) j))))))) (fun M9 eM9 => ?_)
          have f10 : M9[o]? = some (.inr (10, zo o (zi) (zl))) := by rw [eM9, ev_sn (by omega)]; exact hO
          have f11 : M9[o + 6]? = some (.inl (0, 12, .inl (upd f (j + 1) (nI (max (lc u v i (j + 1)) (lc u v (i + 1) j)))))) := by rw [eM9]; exact ev_sg h6
          have f12 : M9[o + 7]? = some (.inl (0, 12, .inl (g))) := by rw [eM9, ev_sn (by omega)]; exact h7
          refine ev_blk (B := [(.iinc 2 1, 3)]) (pe := 155) (ls' := [some (.ref (o)), some (.int (nI i)), some (.int (nI (j + 1))), some (.int (nI (max (lc u v i (j + 1)) (lc u v (i + 1) j))))]) (st' := []) ⟨dX11_common_152, rfl⟩ (by show some (([some (.ref (o)), some (.int (nI i)), some (.int ((nI j) + Int32.ofInt (1))), some (.int (nI (max (lc u v i (j + 1)) (lc u v (i + 1) j))))] : ev_L), ([] : List Value)) = _; rw [ev_inc1 j]) ?_
          refine ev_goto (tgt := 67) dX11_common_155 (by decide) ?_
          refine ev_fgt (ls' := [some (.ref (o)), some (.int (nI i)), some (.int (nI (j + 1))), none]) ⟨Or.inr rfl, Or.inr rfl, Or.inr rfl, Or.inl rfl, trivial⟩ ?_
          refine ih (j + 1) _ _ (by omega) f10 f11 f12 (hF.tr ⟨by rw [eM9]; simp only [List.length_set], fun j hj1 hj2 => by rw [eM9, ev_sn (by omega)]⟩) (fun q h1 => ?_) (fun q h1 => ?_) (by omega)
          · rw [upd_at]
            by_cases e : q = j + 1
            · subst e
              rw [if_pos rfl, lc_s, gd3 (by omega), gd3 (by omega)]
              first | rw [if_pos q136] | rw [if_neg q136]
            · rw [if_neg e]; exact ha q (by omega)
          · exact hg q h1
        · refine ev_blk (B := [(.aload_n 0, 1)]) (pe := 140) (ls' := [some (.ref (o)), some (.int (nI i)), some (.int (nI j)), some (.int (nI (max (lc u v i (j + 1)) (lc u v (i + 1) j))))]) (st' := [.ref (o), .int (nI (j + 1)), .ref (o + 6)]) ⟨dX11_common_139, rfl⟩ rfl ?_
          refine ev_getf (v := .ref (o + 7)) F_RX11_29 dX11_common_140 hO rfl ?_
          refine ev_blk (B := [(.iload_n 2, 1)]) (pe := 144) (ls' := [some (.ref (o)), some (.int (nI i)), some (.int (nI j)), some (.int (nI (max (lc u v i (j + 1)) (lc u v (i + 1) j))))]) (st' := [.int (nI j), .ref (o + 7), .int (nI (j + 1)), .ref (o + 6)]) ⟨dX11_common_143, rfl⟩ rfl ?_
          refine ev_iald dX11_common_144 h7 (vp_in_nI (show j < 12 by omega) (by omega)) ?_
          rw [nI_clamp (show j < 2 ^ 31 by omega)]
          rw [show g j = nI (lc u v i j) from hg j (by omega)]
          refine ev_blk (B := [(.iconst 1, 1), (.iadd, 1)]) (pe := 147) (ls' := [some (.ref (o)), some (.int (nI i)), some (.int (nI j)), some (.int (nI (max (lc u v i (j + 1)) (lc u v (i + 1) j))))]) (st' := [.int (nI ((lc u v i j) + 1)), .int (nI (j + 1)), .ref (o + 6)]) ⟨dX11_common_145, dX11_common_146, rfl⟩ (by show some (([some (.ref (o)), some (.int (nI i)), some (.int (nI j)), some (.int (nI (max (lc u v i (j + 1)) (lc u v (i + 1) j))))] : ev_L), ([.int ((nI (lc u v i j)) + (nI 1)), .int (nI (j + 1)), .ref (o + 6)] : List Value)) = _; rw [nI_add (lc u v i j) 1]) ?_
          refine ev_goto (tgt := 151) dX11_common_147 (by decide) ?_
          refine ev_iast dX11_common_151 h6 (vp_in_nI (show j + 1 < 12 by omega) (by omega)) ?_
          rw [nI_clamp (show j + 1 < 2 ^ 31 by omega)]
          refine ev_nm (M0 := M.set (o + 6) (.inl (0, 12, .inl (upd f (j + 1) (nI ((lc u v i j) + 1)))))) (fun M13 eM13 => ?_)
          have f14 : M13[o]? = some (.inr (10, zo o (zi) (zl))) := by rw [eM13, ev_sn (by omega)]; exact hO
          have f15 : M13[o + 6]? = some (.inl (0, 12, .inl (upd f (j + 1) (nI ((lc u v i j) + 1))))) := by rw [eM13]; exact ev_sg h6
          have f16 : M13[o + 7]? = some (.inl (0, 12, .inl (g))) := by rw [eM13, ev_sn (by omega)]; exact h7
          refine ev_blk (B := [(.iinc 2 1, 3)]) (pe := 155) (ls' := [some (.ref (o)), some (.int (nI i)), some (.int (nI (j + 1))), some (.int (nI (max (lc u v i (j + 1)) (lc u v (i + 1) j))))]) (st' := []) ⟨dX11_common_152, rfl⟩ (by show some (([some (.ref (o)), some (.int (nI i)), some (.int ((nI j) + Int32.ofInt (1))), some (.int (nI (max (lc u v i (j + 1)) (lc u v (i + 1) j))))] : ev_L), ([] : List Value)) = _; rw [ev_inc1 j]) ?_
          refine ev_goto (tgt := 67) dX11_common_155 (by decide) ?_
          refine ev_fgt (ls' := [some (.ref (o)), some (.int (nI i)), some (.int (nI (j + 1))), none]) ⟨Or.inr rfl, Or.inr rfl, Or.inr rfl, Or.inl rfl, trivial⟩ ?_
          refine ih (j + 1) _ _ (by omega) f14 f15 f16 (hF.tr ⟨by rw [eM13]; simp only [List.length_set], fun j hj1 hj2 => by rw [eM13, ev_sn (by omega)]⟩) (fun q h1 => ?_) (fun q h1 => ?_) (by omega)
          · rw [upd_at]
            by_cases e : q = j + 1
            · subst e
              rw [if_pos rfl, lc_s, gd3 (by omega), gd3 (by omega)]
              first | rw [if_pos q136] | rw [if_neg q136]
            · rw [if_neg e]; exact ha q (by omega)
          · exact hg q h1

set_option maxHeartbeats 4000000 in
set_option maxRecDepth 100000 in
theorem c_R_com_p {l : Launch}   (o : Nat) (zi : Nat → Int32) (zl : Nat → Int64) (u : List Nat) (hu : wk u) (hun : u.length ≤ 10) (v : List Nat) (hv : wk v) (hvn : v.length ≤ 10) (z5 : zl 5 = e2 u) (z6 : zl 6 = e2 v) (M0 : ev_M) (f : Nat → Int32) (i : Nat) (Q : ev_R → ev_M → Prop) (hk : ∀ (M : ev_M) (g : Nat → Int32) (j : Nat), M[o]? = some (.inr (10, zo o zi zl)) → M[o + 6]? = some (.inl (0, 12, .inl f)) → M[o + 7]? = some (.inl (0, 12, .inl g)) → FX o (o + 6) (o + 8) M0 M → (∀ q, q ≤ 10 → g q = f q) → ev_ l m_X11_common 0 0 65 [some (.ref (o)), some (.int (nI i)), some (.int (nI j)), none] [] M Q) : ∀ (n9 : Nat) (j : Nat) (M : ev_M) (g : Nat → Int32), j ≤ 11 → M[o]? = some (.inr (10, zo o zi zl)) → M[o + 6]? = some (.inl (0, 12, .inl f)) → M[o + 7]? = some (.inl (0, 12, .inl g)) → FX o (o + 6) (o + 8) M0 M → (∀ q, q < j → g q = f q) → 11 - j < n9 → ev_ l m_X11_common 0 0 41 [some (.ref (o)), some (.int (nI i)), some (.int (nI j)), none] [] M (Q) := by
  intro n9
  induction n9 with
  | zero => intro j M g hj hO h6 h7 hF ha hm9; exact absurd hm9 (by omega)
  | succ n9 ih =>
    intro j M g hj hO h6 h7 hF ha hm9
    refine ev_blk (B := [(.iload_n 2, 1), (.bipush 10, 2)]) (pe := 44) (ls' := [some (.ref (o)), some (.int (nI i)), some (.int (nI j)), none]) (st' := [.int (nI 10), .int (nI j)]) ⟨dX11_common_41, dX11_common_42, rfl⟩ rfl ?_
    refine ev_iN_gt dX11_common_44 (tgt := 65) (by decide) (by omega) (by omega) (fun q44 => ?_) (fun q44 => ?_)
    · exact hk M g j hO h6 h7 hF (fun q h1 => ha q (by omega))
    · refine ev_blk (B := [(.aload_n 0, 1)]) (pe := 48) (ls' := [some (.ref (o)), some (.int (nI i)), some (.int (nI j)), none]) (st' := [.ref (o)]) ⟨dX11_common_47, rfl⟩ rfl ?_
      refine ev_getf (v := .ref (o + 7)) F_RX11_29 dX11_common_48 hO rfl ?_
      refine ev_blk (B := [(.iload_n 2, 1), (.aload_n 0, 1)]) (pe := 53) (ls' := [some (.ref (o)), some (.int (nI i)), some (.int (nI j)), none]) (st' := [.ref (o), .int (nI j), .ref (o + 7)]) ⟨dX11_common_51, dX11_common_52, rfl⟩ rfl ?_
      refine ev_getf (v := .ref (o + 6)) F_RX11_26 dX11_common_53 hO rfl ?_
      refine ev_blk (B := [(.iload_n 2, 1)]) (pe := 57) (ls' := [some (.ref (o)), some (.int (nI i)), some (.int (nI j)), none]) (st' := [.int (nI j), .ref (o + 6), .int (nI j), .ref (o + 7)]) ⟨dX11_common_56, rfl⟩ rfl ?_
      refine ev_iald dX11_common_57 h6 (vp_in_nI (show j < 12 by omega) (by omega)) ?_
      rw [nI_clamp (show j < 2 ^ 31 by omega)]
      refine ev_iast dX11_common_58 h7 (vp_in_nI (show j < 12 by omega) (by omega)) ?_
      rw [nI_clamp (show j < 2 ^ 31 by omega)]
      refine ev_nm (M0 := M.set (o + 7) (.inl (0, 12, .inl (upd g j (f j))))) (fun M1 eM1 => ?_)
      have f2 : M1[o]? = some (.inr (10, zo o (zi) (zl))) := by rw [eM1, ev_sn (by omega)]; exact hO
      have f3 : M1[o + 6]? = some (.inl (0, 12, .inl (f))) := by rw [eM1, ev_sn (by omega)]; exact h6
      have f4 : M1[o + 7]? = some (.inl (0, 12, .inl (upd g j (f j)))) := by rw [eM1]; exact ev_sg h7
      refine ev_blk (B := [(.iinc 2 1, 3)]) (pe := 62) (ls' := [some (.ref (o)), some (.int (nI i)), some (.int (nI (j + 1))), none]) (st' := []) ⟨dX11_common_59, rfl⟩ (by show some (([some (.ref (o)), some (.int (nI i)), some (.int ((nI j) + Int32.ofInt (1))), none] : ev_L), ([] : List Value)) = _; rw [ev_inc1 j]) ?_
      refine ev_goto (tgt := 41) dX11_common_62 (by decide) ?_
      refine ih (j + 1) _ _ (by omega) f2 f3 f4 (hF.tr ⟨by rw [eM1]; simp only [List.length_set], fun j hj1 hj2 => by rw [eM1, ev_sn (by omega)]⟩) (fun q h1 => ?_) (by omega)
      rw [upd_at]
      by_cases e : q = j
      · subst e; rw [if_pos rfl]
      · rw [if_neg e]; exact ha q (by omega)

set_option maxHeartbeats 4000000 in
set_option maxRecDepth 100000 in
theorem c_R_com_l {l : Launch} (hl : l.stackTraces = false)  (o : Nat) (zi : Nat → Int32) (zl : Nat → Int64) (u : List Nat) (hu : wk u) (hun : u.length ≤ 10) (v : List Nat) (hv : wk v) (hvn : v.length ≤ 10) (z5 : zl 5 = e2 u) (z6 : zl 6 = e2 v) (M0 : ev_M) : ∀ (n9 : Nat) (i : Nat) (M : ev_M) (f : Nat → Int32) (g : Nat → Int32), i ≤ u.length → M[o]? = some (.inr (10, zo o zi zl)) → M[o + 6]? = some (.inl (0, 12, .inl f)) → M[o + 7]? = some (.inl (0, 12, .inl g)) → FX o (o + 6) (o + 8) M0 M → (∀ q, q ≤ v.length → f q = nI (lc u v i q)) → u.length - i < n9 → ev_ l m_X11_common 0 0 28 [some (.ref (o)), some (.int (nI i)), none, none] [] M (fun r M1 => r = .inl (some (.int (nI (lc u v u.length v.length)))) ∧ M1[o]? = some (.inr (10, zo o zi zl)) ∧ (∃ f g, M1[o + 6]? = some (.inl (0, 12, .inl f)) ∧ M1[o + 7]? = some (.inl (0, 12, .inl g))) ∧ FX o (o + 6) (o + 8) M0 M1) := by
  intro n9
  induction n9 with
  | zero => intro i M f g hi hO h6 h7 hF ha hm9; exact absurd hm9 (by omega)
  | succ n9 ih =>
    intro i M f g hi hO h6 h7 hF ha hm9
    refine ev_blk (B := [(.iload_n 1, 1), (.aload_n 0, 1)]) (pe := 30) (ls' := [some (.ref (o)), some (.int (nI i)), none, none]) (st' := [.ref (o), .int (nI i)]) ⟨dX11_common_28, dX11_common_29, rfl⟩ rfl ?_
    refine ev_getf (v := .long (e2 u)) F_RX11_159 dX11_common_30 hO (congrArg (fun q => some (Value.long q)) z5) ?_
    refine ev_cSv Y_X11_lengthOf L_RX11_111 dX11_common_33 ⟨Nat.le_of_ble_eq_true rfl, Nat.le_of_ble_eq_true rfl, Nat.le_of_ble_eq_true rfl, Nat.le_of_ble_eq_true rfl, Nat.le_of_ble_eq_true rfl⟩ (as := [.long (e2 u)]) rfl rfl (c_R_lengthOf hl u hu (Nat.le_trans hun (by decide))) ?_
    refine ev_iN_ge dX11_common_36 (tgt := 164) (by decide) (by omega) (by omega) (fun q36 => ?_) (fun q36 => ?_)
    · refine ev_blk (B := [(.aload_n 0, 1)]) (pe := 165) (ls' := [some (.ref (o)), some (.int (nI i)), none, none]) (st' := [.ref (o)]) ⟨dX11_common_164, rfl⟩ rfl ?_
      refine ev_getf (v := .ref (o + 6)) F_RX11_26 dX11_common_165 hO rfl ?_
      refine ev_blk (B := [(.aload_n 0, 1)]) (pe := 169) (ls' := [some (.ref (o)), some (.int (nI i)), none, none]) (st' := [.ref (o), .ref (o + 6)]) ⟨dX11_common_168, rfl⟩ rfl ?_
      refine ev_getf (v := .long (e2 v)) F_RX11_163 dX11_common_169 hO (congrArg (fun q => some (Value.long q)) z6) ?_
      refine ev_cSv Y_X11_lengthOf L_RX11_111 dX11_common_172 ⟨Nat.le_of_ble_eq_true rfl, Nat.le_of_ble_eq_true rfl, Nat.le_of_ble_eq_true rfl, Nat.le_of_ble_eq_true rfl, Nat.le_of_ble_eq_true rfl⟩ (as := [.long (e2 v)]) rfl rfl (c_R_lengthOf hl v hv (Nat.le_trans hvn (by decide))) ?_
      refine ev_iald dX11_common_175 h6 (vp_in_nI (show v.length < 12 by omega) (by omega)) ?_
      rw [nI_clamp (show v.length < 2 ^ 31 by omega)]
      rw [show f v.length = nI (lc u v u.length v.length) from by rw [ha _ (Nat.le_refl _), show i = u.length by omega]]
      refine ev_iret dX11_common_176 rfl (rfl) ⟨Nat.le_of_ble_eq_true rfl, Nat.le_of_ble_eq_true rfl⟩ ?_
      exact ⟨rfl, hO, ⟨f, g, h6, h7⟩, hF⟩
    · refine ev_blk (B := [(.iconst 0, 1), (.istore_n 2, 1)]) (pe := 41) (ls' := [some (.ref (o)), some (.int (nI i)), some (.int (nI 0)), none]) (st' := []) ⟨dX11_common_39, dX11_common_40, rfl⟩ rfl ?_
      refine c_R_com_p o zi zl u hu hun v hv hvn z5 z6 M0 f i _ (fun M1 g1 j1 a1 a2 a3 a4 a5 => ?_) _ 0 M g (by omega) hO h6 h7 hF (fun q hq => absurd hq (Nat.not_lt_zero _)) (Nat.lt_succ_self _)
      refine ev_blk (B := [(.iconst 0, 1), (.istore_n 2, 1)]) (pe := 67) (ls' := [some (.ref (o)), some (.int (nI i)), some (.int (nI 0)), none]) (st' := []) ⟨dX11_common_65, dX11_common_66, rfl⟩ rfl ?_
      refine c_R_com_i hl g1 o zi zl u hu hun v hv hvn z5 z6 M0 i (by omega) _ (fun M2 f2 g2 j2 x2 b1 b2 b3 b4 b5 => ?_) _ 0 M1 f (Nat.zero_le _) a1 a2 a3 a4 (fun q hq => by rw [show q = 0 by omega, ha 0 (Nat.zero_le _), lc_0, lc_0]) (fun q hq => by rw [a5 q (by omega)]; exact ha q hq) (Nat.lt_succ_self _)
      refine ev_blk (B := [(.iinc 1 1, 3)]) (pe := 161) (ls' := [some (.ref (o)), some (.int (nI (i + 1))), some (.int (nI j2)), none]) (st' := []) ⟨dX11_common_158, rfl⟩ (by show some (([some (.ref (o)), some (.int (nI i + Int32.ofInt 1)), some (.int (nI j2)), none] : ev_L), ([] : List Value)) = _; rw [ev_inc1]) ?_
      refine ev_goto (tgt := 28) dX11_common_161 (by decide) ?_
      refine ev_fgt (ls' := [some (.ref (o)), some (.int (nI (i + 1))), none, none]) ⟨Or.inr rfl, Or.inr rfl, Or.inl rfl, Or.inl rfl, trivial⟩ ?_
      exact ih (i + 1) M2 f2 g2 (by omega) b1 b2 b3 b4 b5 (by omega)

set_option maxHeartbeats 4000000 in
set_option maxRecDepth 100000 in
theorem c_R_com_0 {l : Launch} (hl : l.stackTraces = false)  (o : Nat) (zi : Nat → Int32) (zl : Nat → Int64) (u : List Nat) (hu : wk u) (hun : u.length ≤ 10) (v : List Nat) (hv : wk v) (hvn : v.length ≤ 10) (z5 : zl 5 = e2 u) (z6 : zl 6 = e2 v) (M0 : ev_M) : ∀ (n9 : Nat) (i : Nat) (M : ev_M) (f : Nat → Int32) (g : Nat → Int32), i ≤ 11 → M[o]? = some (.inr (10, zo o zi zl)) → M[o + 6]? = some (.inl (0, 12, .inl f)) → M[o + 7]? = some (.inl (0, 12, .inl g)) → FX o (o + 6) (o + 8) M0 M → (∀ q, q < i → f q = nI 0) → 11 - i < n9 → ev_ l m_X11_common 0 0 7 [some (.ref (o)), some (.int (nI i)), none, none] [] M (fun r M1 => r = .inl (some (.int (nI (lc u v u.length v.length)))) ∧ M1[o]? = some (.inr (10, zo o zi zl)) ∧ (∃ f g, M1[o + 6]? = some (.inl (0, 12, .inl f)) ∧ M1[o + 7]? = some (.inl (0, 12, .inl g))) ∧ FX o (o + 6) (o + 8) M0 M1) := by
  intro n9
  induction n9 with
  | zero => intro i M f g hi hO h6 h7 hF ha hm9; exact absurd hm9 (by omega)
  | succ n9 ih =>
    intro i M f g hi hO h6 h7 hF ha hm9
    refine ev_blk (B := [(.iload_n 1, 1), (.bipush 10, 2)]) (pe := 10) (ls' := [some (.ref (o)), some (.int (nI i)), none, none]) (st' := [.int (nI 10), .int (nI i)]) ⟨dX11_common_7, dX11_common_8, rfl⟩ rfl ?_
    refine ev_iN_gt dX11_common_10 (tgt := 26) (by decide) (by omega) (by omega) (fun q10 => ?_) (fun q10 => ?_)
    · refine ev_blk (B := [(.iconst 0, 1), (.istore_n 1, 1)]) (pe := 28) (ls' := [some (.ref (o)), some (.int (nI 0)), none, none]) (st' := []) ⟨dX11_common_26, dX11_common_27, rfl⟩ rfl ?_
      exact c_R_com_l hl o zi zl u hu hun v hv hvn z5 z6 M0 _ 0 M f g (Nat.zero_le _) hO h6 h7 hF (fun q hq => ha q (by omega)) (Nat.lt_succ_self _)
    · refine ev_blk (B := [(.aload_n 0, 1)]) (pe := 14) (ls' := [some (.ref (o)), some (.int (nI i)), none, none]) (st' := [.ref (o)]) ⟨dX11_common_13, rfl⟩ rfl ?_
      refine ev_getf (v := .ref (o + 6)) F_RX11_26 dX11_common_14 hO rfl ?_
      refine ev_blk (B := [(.iload_n 1, 1), (.iconst 0, 1)]) (pe := 19) (ls' := [some (.ref (o)), some (.int (nI i)), none, none]) (st' := [.int (nI 0), .int (nI i), .ref (o + 6)]) ⟨dX11_common_17, dX11_common_18, rfl⟩ rfl ?_
      refine ev_iast dX11_common_19 h6 (vp_in_nI (show i < 12 by omega) (by omega)) ?_
      rw [nI_clamp (show i < 2 ^ 31 by omega)]
      refine ev_nm (M0 := M.set (o + 6) (.inl (0, 12, .inl (upd f i (nI 0))))) (fun M1 eM1 => ?_)
      have f2 : M1[o]? = some (.inr (10, zo o (zi) (zl))) := by rw [eM1, ev_sn (by omega)]; exact hO
      have f3 : M1[o + 6]? = some (.inl (0, 12, .inl (upd f i (nI 0)))) := by rw [eM1]; exact ev_sg h6
      have f4 : M1[o + 7]? = some (.inl (0, 12, .inl (g))) := by rw [eM1, ev_sn (by omega)]; exact h7
      refine ev_blk (B := [(.iinc 1 1, 3)]) (pe := 23) (ls' := [some (.ref (o)), some (.int (nI (i + 1))), none, none]) (st' := []) ⟨dX11_common_20, rfl⟩ (by show some (([some (.ref (o)), some (.int ((nI i) + Int32.ofInt (1))), none, none] : ev_L), ([] : List Value)) = _; rw [ev_inc1 i]) ?_
      refine ev_goto (tgt := 7) dX11_common_23 (by decide) ?_
      refine ih (i + 1) _ _ g (by omega) f2 f3 f4 (hF.tr ⟨by rw [eM1]; simp only [List.length_set], fun j hj1 hj2 => by rw [eM1, ev_sn (by omega)]⟩) (fun q h1 => ?_) (by omega)
      rw [upd_at]
      by_cases e : q = i
      · subst e; rw [if_pos rfl]
      · rw [if_neg e]; exact ha q (by omega)

set_option maxHeartbeats 4000000 in
set_option maxRecDepth 100000 in
theorem r_common {l : Launch} (hl : l.stackTraces = false) {M : ev_M} (o : Nat) (S : St) (hS : okS S) (hT10 : S.T.length ≤ 10) (hG3 : S.G.length ≤ 3) (hH20 : S.H.length ≤ 20) (zi : Nat → Int32) (zl : Nat → Int64) (hR : RR M o S zi zl) : ev_Mt l m_X11_common [.ref (o)] M (fun r M1 => r = .inl (some (.int (sCom S).2)) ∧ ∃ zi' zl', RR M1 o S zi' zl' ∧ zi' 0 = nI (sCom S).1 ∧ Fr o (o + 31) M M1) := by
  refine ev_body hl rfl (by decide +kernel) (Nat.le_of_ble_eq_true rfl) ?_
  show ev_ l m_X11_common 0 0 0 [some (.ref (o)), none, none, none] [] M _
  refine ev_blk (B := [(.aload_n 0, 1), (.iconst 0, 1)]) (pe := 2) (ls' := [some (.ref (o)), none, none, none]) (st' := [.int (nI 0), .ref (o)]) ⟨dX11_common_0, dX11_common_1, rfl⟩ rfl ?_
  refine ev_put F_RX11_106 dX11_common_2 hR.z (Nat.le_of_ble_eq_true rfl) (fun _ _ => ⟨rfl, rfl⟩) ?_
  rw [zs_0]
  refine ev_nm (M0 := M.set (o) (.inr (10, zo o (ui (zi) 0 (nI 0)) (zl)))) (fun M1 eM1 => ?_)
  have f2 : M1[o]? = some (.inr (10, zo o (ui (zi) 0 (nI 0)) (zl))) := by rw [eM1]; exact ev_sg hR.z
  refine ev_blk (B := [(.iconst 0, 1), (.istore_n 1, 1)]) (pe := 7) (ls' := [some (.ref (o)), some (.int (nI 0)), none, none]) (st' := []) ⟨dX11_common_5, dX11_common_6, rfl⟩ rfl ?_
  have W3 : FX o (o + 31) (o + 31) M M1 := ⟨by rw [eM1]; simp only [List.length_set], fun j hj1 hj2 => by rw [eM1, ev_sn (by omega)]⟩
  obtain ⟨yf, yg, y6, y7⟩ := (hR.y.fx W3 (by omega))
  refine ev_mono (fun r M9 hq => ?_) (c_R_com_0 hl o (ui (zi) 0 (nI 0)) (zl) S.x.2.1 hS.x.2.1 hS.x.2.2.1 S.x.2.2 hS.x.2.2.2.1 hS.x.2.2.2.2 hR.p.2.2.2.1 hR.p.2.2.2.2.1 M1 _ 0 _ yf yg (by omega) f2 y6 y7 FX.rf (fun q hq => absurd hq (Nat.not_lt_zero _)) (Nat.lt_succ_self _))
  obtain ⟨q1, q2, ⟨f9, g9, q3, q5⟩, q4⟩ := hq
  exact ⟨q1, _, _, hR.ky q2 ⟨fun k hk => ui_ne (nm hk (by decide)), fun k hk => rfl⟩ ((W3.em (by omega)).tr q4) (PY.of q3 q5), rfl, FX.fr ((W3.em (by omega)).tr (q4.to (by omega) (by omega))) (lo := o + 1) (hi := o + 31) (by omega) (by omega)⟩

theorem apc {Mz : ev_M} {p : Nat} {c : va_E} (hp : p = Mz.length) : (Mz ++ [c])[p]? = some c := by subst hp; simp
theorem apset {Mz : ev_M} {p : Nat} {c c' : va_E} (hp : p = Mz.length) : (Mz ++ [c]).set p c' = Mz ++ [c'] := by subst hp; simp
theorem RR.len {M : ev_M} {o : Nat} {S : St} {zi : Nat → Int32} {zl : Nat → Int64} (h : RR M o S zi zl) : o + 31 ≤ M.length := by
  obtain ⟨f, g, h1, k, a1, a2, a3, a4, a5⟩ := h.s
  have := (List.getElem?_eq_some_iff.mp a4).1
  omega
set_option maxHeartbeats 4000000 in
set_option maxRecDepth 100000 in
theorem c_R_sub_l {l : Launch} (hl : l.stackTraces = false)  (o k : Nat) (w : List Nat) (hw : wk w) (hwn : w.length ≤ 10) (Mz : ev_M) (p : Nat) (hp : p = Mz.length) : ∀ (n9 : Nat) (i : Nat) (f : Nat → Int32), i ≤ w.length → (∀ x, x < 3 → f x = nI (sw w i x)) → w.length - i < n9 → ev_ l m_X11_subwords 1 3 47 [some (.ref (o)), some (.int (nI k)), some (.long (e2 w)), none, some (.int (nI (1 + sw w i 0 + sw w i 1 + sw w i 2))), some (.ref (p)), some (.int (nI i)), none, none] [] (Mz ++ [(.inl (0, 3, .inl f) : va_E)]) (fun r M9 => r = .inl (some (.int (nI (1 + sw w w.length 0 + sw w w.length 1 + sw w w.length 2)))) ∧ ∃ X, M9 = Mz ++ [X]) := by
  intro n9
  induction n9 with
  | zero => intro i f hi ha hm9; exact absurd hm9 (by omega)
  | succ n9 ih =>
    intro i f hi ha hm9
    refine ev_blk (B := [(.iload 6, 2), (.lload_n 2, 1)]) (pe := 50) (ls' := [some (.ref (o)), some (.int (nI k)), some (.long (e2 w)), none, some (.int (nI (1 + sw w i 0 + sw w i 1 + sw w i 2))), some (.ref (p)), some (.int (nI i)), none, none]) (st' := [.long (e2 w), .int (nI i)]) ⟨dX11_subwords_47, dX11_subwords_49, rfl⟩ rfl ?_
    refine ev_cSv Y_X11_lengthOf L_RX11_111 dX11_subwords_50 ⟨Nat.le_of_ble_eq_true rfl, Nat.le_of_ble_eq_true rfl, Nat.le_of_ble_eq_true rfl, Nat.le_of_ble_eq_true rfl, Nat.le_of_ble_eq_true rfl⟩ (as := [.long (e2 w)]) rfl rfl (c_R_lengthOf hl w hw (Nat.le_trans hwn (by decide))) ?_
    refine ev_iN_ge dX11_subwords_53 (tgt := 94) (by decide) (by omega) (by omega) (fun q53 => ?_) (fun q53 => ?_)
    · refine ev_blk (B := [(.iload 4, 2)]) (pe := 96) (ls' := [some (.ref (o)), some (.int (nI k)), some (.long (e2 w)), none, some (.int (nI (1 + sw w i 0 + sw w i 1 + sw w i 2))), some (.ref (p)), some (.int (nI i)), none, none]) (st' := [.int (nI (1 + sw w i 0 + sw w i 1 + sw w i 2))]) ⟨dX11_subwords_94, rfl⟩ rfl ?_
      refine ev_iret dX11_subwords_96 rfl (rfl) ⟨Nat.le_of_ble_eq_true rfl, Nat.le_of_ble_eq_true rfl⟩ ?_
      have e7 : i = w.length := by omega
      subst e7
      exact ⟨rfl, _, rfl⟩
    · refine ev_blk (B := [(.lload_n 2, 1), (.iload 6, 2)]) (pe := 59) (ls' := [some (.ref (o)), some (.int (nI k)), some (.long (e2 w)), none, some (.int (nI (1 + sw w i 0 + sw w i 1 + sw w i 2))), some (.ref (p)), some (.int (nI i)), none, none]) (st' := [.int (nI i), .long (e2 w)]) ⟨dX11_subwords_56, dX11_subwords_57, rfl⟩ rfl ?_
      have hx := hw _ (List.getElem_mem (show i < w.length by omega))
      have hsl := sw_le (w := w) (i := i) hx
      refine ev_cSv Y_X11_letterAt L_RX11_119 dX11_subwords_59 ⟨Nat.le_of_ble_eq_true rfl, Nat.le_of_ble_eq_true rfl, Nat.le_of_ble_eq_true rfl, Nat.le_of_ble_eq_true rfl, Nat.le_of_ble_eq_true rfl⟩ (as := [.long (e2 w), .int (nI i)]) rfl rfl (c_R_letterAt hl w hw (Nat.le_trans hwn (by decide)) i (by omega)) ?_
      refine ev_blk (B := [(.istore 7, 2), (.iload 4, 2), (.istore 8, 2), (.iload 4, 2), (.iload 8, 2), (.aload 5, 2), (.iload 7, 2)]) (pe := 76) (ls' := [some (.ref (o)), some (.int (nI k)), some (.long (e2 w)), none, some (.int (nI (1 + sw w i 0 + sw w i 1 + sw w i 2))), some (.ref (p)), some (.int (nI i)), some (.int (nI (w[i]))), some (.int (nI (1 + sw w i 0 + sw w i 1 + sw w i 2)))]) (st' := [.int (nI (w[i])), .ref (p), .int (nI (1 + sw w i 0 + sw w i 1 + sw w i 2)), .int (nI (1 + sw w i 0 + sw w i 1 + sw w i 2))]) ⟨dX11_subwords_62, dX11_subwords_64, dX11_subwords_66, dX11_subwords_68, dX11_subwords_70, dX11_subwords_72, dX11_subwords_74, rfl⟩ rfl ?_
      refine ev_iald dX11_subwords_76 (apc hp) (vp_in_nI (show w[i] < 3 by omega) (by omega)) ?_
      rw [nI_clamp (show w[i] < 2 ^ 31 by omega)]
      rw [show f (w[i]) = nI (sw w i w[i]) from ha _ hx]
      refine ev_blk (B := [(.isub, 1), (.iadd, 1), (.istore 4, 2), (.aload 5, 2), (.iload 7, 2), (.iload 8, 2)]) (pe := 87) (ls' := [some (.ref (o)), some (.int (nI k)), some (.long (e2 w)), none, some (.int (nI ((1 + sw w i 0 + sw w i 1 + sw w i 2) + ((1 + sw w i 0 + sw w i 1 + sw w i 2) - (sw w i w[i]))))), some (.ref (p)), some (.int (nI i)), some (.int (nI (w[i]))), some (.int (nI (1 + sw w i 0 + sw w i 1 + sw w i 2)))]) (st' := [.int (nI (1 + sw w i 0 + sw w i 1 + sw w i 2)), .int (nI (w[i])), .ref (p)]) ⟨dX11_subwords_77, dX11_subwords_78, dX11_subwords_79, dX11_subwords_81, dX11_subwords_83, dX11_subwords_85, rfl⟩ (by show some (([some (.ref (o)), some (.int (nI k)), some (.long (e2 w)), none, some (.int ((nI (1 + sw w i 0 + sw w i 1 + sw w i 2)) + ((nI (1 + sw w i 0 + sw w i 1 + sw w i 2)) - (nI (sw w i w[i]))))), some (.ref (p)), some (.int (nI i)), some (.int (nI (w[i]))), some (.int (nI (1 + sw w i 0 + sw w i 1 + sw w i 2)))] : ev_L), ([.int (nI (1 + sw w i 0 + sw w i 1 + sw w i 2)), .int (nI (w[i])), .ref (p)] : List Value)) = _; rw [pk_sub (show (sw w i w[i]) ≤ (1 + sw w i 0 + sw w i 1 + sw w i 2) by omega), nI_add (1 + sw w i 0 + sw w i 1 + sw w i 2) ((1 + sw w i 0 + sw w i 1 + sw w i 2) - (sw w i w[i]))]) ?_
      refine ev_iast dX11_subwords_87 (apc hp) (vp_in_nI (show w[i] < 3 by omega) (by omega)) ?_
      rw [nI_clamp (show w[i] < 2 ^ 31 by omega)]
      refine ev_nm (M0 := (Mz ++ [(.inl (0, 3, .inl f) : va_E)]).set (p) (.inl (0, 3, .inl (upd f (w[i]) (nI (1 + sw w i 0 + sw w i 1 + sw w i 2)))))) (fun M1 eM1 => ?_)
      have f2 : M1[p]? = some (.inl (0, 3, .inl (upd f (w[i]) (nI (1 + sw w i 0 + sw w i 1 + sw w i 2))))) := by rw [eM1]; exact ev_sg (apc hp)
      refine ev_blk (B := [(.iinc 6 1, 3)]) (pe := 91) (ls' := [some (.ref (o)), some (.int (nI k)), some (.long (e2 w)), none, some (.int (nI ((1 + sw w i 0 + sw w i 1 + sw w i 2) + ((1 + sw w i 0 + sw w i 1 + sw w i 2) - (sw w i w[i]))))), some (.ref (p)), some (.int (nI (i + 1))), some (.int (nI (w[i]))), some (.int (nI (1 + sw w i 0 + sw w i 1 + sw w i 2)))]) (st' := []) ⟨dX11_subwords_88, rfl⟩ (by show some (([some (.ref (o)), some (.int (nI k)), some (.long (e2 w)), none, some (.int (nI ((1 + sw w i 0 + sw w i 1 + sw w i 2) + ((1 + sw w i 0 + sw w i 1 + sw w i 2) - (sw w i w[i]))))), some (.ref (p)), some (.int ((nI i) + Int32.ofInt (1))), some (.int (nI (w[i]))), some (.int (nI (1 + sw w i 0 + sw w i 1 + sw w i 2)))] : ev_L), ([] : List Value)) = _; rw [ev_inc1 i]) ?_
      refine ev_goto (tgt := 47) dX11_subwords_91 (by decide) ?_
      refine ev_fgt (ls' := [some (.ref (o)), some (.int (nI k)), some (.long (e2 w)), none, some (.int (nI ((1 + sw w i 0 + sw w i 1 + sw w i 2) + ((1 + sw w i 0 + sw w i 1 + sw w i 2) - (sw w i w[i]))))), some (.ref (p)), some (.int (nI (i + 1))), none, none]) ⟨Or.inr rfl, Or.inr rfl, Or.inr rfl, Or.inl rfl, Or.inr rfl, Or.inr rfl, Or.inr rfl, Or.inl rfl, Or.inl rfl, trivial⟩ ?_
      have hal : (1 + sw w i 0 + sw w i 1 + sw w i 2) + ((1 + sw w i 0 + sw w i 1 + sw w i 2) - (sw w i w[i])) = 1 + sw w (i + 1) 0 + sw w (i + 1) 1 + sw w (i + 1) 2 := by have := sw_sum (show i < w.length by omega) hx; omega
      rw [hal, eM1, apset hp]
      refine ih (i + 1) _ (by omega) (fun x h1 => ?_) (by omega)
      rw [upd_at]
      show _ = nI (if w.getD i 3 = x then _ else _)
      by_cases e : x = w[i]
      · rw [if_pos e, if_pos (by rw [gd3 (by omega)]; exact e.symm)]
      · rw [if_neg e, if_neg (fun q => e (by rw [gd3 (by omega)] at q; exact q.symm))]; exact ha x h1

set_option maxHeartbeats 4000000 in
set_option maxRecDepth 100000 in
theorem r_subwordsT {l : Launch} (hl : l.stackTraces = false) {M : ev_M} (o : Nat) (S : St) (hS : okS S) (hT10 : S.T.length ≤ 10) (hG3 : S.G.length ≤ 3) (hH20 : S.H.length ≤ 20) (zi : Nat → Int32) (zl : Nat → Int64) (hR : RR M o S zi zl) (k : Nat) (hk : k < 2) : ev_Mt l m_X11_subwords [.ref (o), .int (nI k)] M (fun r M1 => r = .inl (some (.int (nI (1 + sw (cw S.x k) (cw S.x k).length 0 + sw (cw S.x k) (cw S.x k).length 1 + sw (cw S.x k) (cw S.x k).length 2)))) ∧ ∃ zi' zl', RR M1 o S zi' zl' ∧ zi' 0 = nI 0 ∧ Fr o (o + 31) M M1) := by
  have jk : inR (nI k) 2 = true := inR_n hk (by omega)
  have hcw := cw_ok hS.x k
  refine ev_bodyD (Q := fun r M1 => r = .inl (some (.int (nI (1 + sw (cw S.x k) (cw S.x k).length 0 + sw (cw S.x k) (cw S.x k).length 1 + sw (cw S.x k) (cw S.x k).length 2)))) ∧ ∃ M0 X, M1 = M0 ++ [X] ∧ M0.length = M.length ∧ M0[o]? = some (.inr (10, zo o (ui (zi) 0 (nI 0)) (zl))) ∧ ∀ j, j ≠ o → M0[j]? = M[j]?) hl rfl (by decide +kernel) (Nat.le_of_ble_eq_true rfl) (fun r M1 hq => ?_) ?_
  · obtain ⟨q1, M0, X, q2, q3, q4, q5⟩ := hq
    have hF : FX o (o + 31) (o + 31) M M0 := ⟨q3, fun j hj _ => q5 j hj⟩
    exact ⟨M0, [X], q2, Nat.le_of_eq q3.symm, ⟨q1, _, _, hR.keep q4 ⟨fun k hk => ui_ne (nm hk (by decide)), fun k hk => rfl⟩ hF, rfl, hF.fr (by omega) (by omega)⟩, fun hM => okM_zo hM q3 hR.len q4 q5, fun v hv => by rw [q1] at hv; cases hv; exact trivial⟩
  show ev_ l m_X11_subwords 0 0 0 [some (.ref (o)), some (.int (nI k)), none, none, none, none, none, none, none] [] M _
  refine ev_blk (B := [(.iload_n 1, 1)]) (pe := 1) (ls' := [some (.ref (o)), some (.int (nI k)), none, none, none, none, none, none, none]) (st' := [.int (nI k)]) ⟨dX11_subwords_0, rfl⟩ rfl ?_
  refine ev_cSv Y_X11_isChannel L_RX11_138 dX11_subwords_1 ⟨Nat.le_of_ble_eq_true rfl, Nat.le_of_ble_eq_true rfl, Nat.le_of_ble_eq_true rfl, Nat.le_of_ble_eq_true rfl, Nat.le_of_ble_eq_true rfl⟩ (as := [.int (nI k)]) rfl rfl (c_R_isChannel hl (nI k)) ?_
  refine ev_ifB_ne dX11_subwords_4 (tgt := 13) (by decide) (fun q4 => ?_) (fun q4 => ?_)
  · refine ev_blk (B := [(.aload_n 0, 1), (.iconst 0, 1)]) (pe := 15) (ls' := [some (.ref (o)), some (.int (nI k)), none, none, none, none, none, none, none]) (st' := [.int (nI 0), .ref (o)]) ⟨dX11_subwords_13, dX11_subwords_14, rfl⟩ rfl ?_
    refine ev_put F_RX11_106 dX11_subwords_15 hR.z (Nat.le_of_ble_eq_true rfl) (fun _ _ => ⟨rfl, rfl⟩) ?_
    rw [zs_0]
    refine ev_nm (M0 := M.set (o) (.inr (10, zo o (ui (zi) 0 (nI 0)) (zl)))) (fun M1 eM1 => ?_)
    have f2 : M1[o]? = some (.inr (10, zo o (ui (zi) 0 (nI 0)) (zl))) := by rw [eM1]; exact ev_sg hR.z
    refine ev_blk (B := [(.aload_n 0, 1), (.iload_n 1, 1)]) (pe := 20) (ls' := [some (.ref (o)), some (.int (nI k)), none, none, none, none, none, none, none]) (st' := [.int (nI k), .ref (o)]) ⟨dX11_subwords_18, dX11_subwords_19, rfl⟩ rfl ?_
    refine ev_cVv Y_X11_wordOf L_RX11_172 dX11_subwords_20 ⟨Nat.le_of_ble_eq_true rfl, Nat.le_of_ble_eq_true rfl, Nat.le_of_ble_eq_true rfl, Nat.le_of_ble_eq_true rfl, Nat.le_of_ble_eq_true rfl⟩ f2 (as := [.int (nI k)]) rfl rfl (c_R_wordOf hl o (ui (zi) 0 (nI 0)) (zl) f2 S.x hR.p.2.2.2.1 hR.p.2.2.2.2.1 k hk) ?_
    refine ev_blk (B := [(.lstore_n 2, 1), (.iconst 1, 1), (.istore 4, 2), (.iconst 3, 1)]) (pe := 28) (ls' := [some (.ref (o)), some (.int (nI k)), some (.long (e2 (cw S.x k))), none, some (.int (nI 1)), none, none, none, none]) (st' := [.int (nI 3)]) ⟨dX11_subwords_23, dX11_subwords_24, dX11_subwords_25, dX11_subwords_27, rfl⟩ rfl ?_
    refine ev_newaI (N := 3) A_int (by decide) (by decide) (by omega) dX11_subwords_28 ⟨Nat.le_of_ble_eq_true rfl, Nat.le_of_ble_eq_true rfl⟩ ?_
    obtain ⟨p, hp⟩ : ∃ p, p = M1.length := ⟨_, rfl⟩
    rw [← hp]
    refine ev_nm (M0 := M1 ++ [.inl (0, 3, .inl (fun _ => 0))]) (fun Mg eMg => ?_)
    have fp : Mg[p]? = some (.inl (0, 3, .inl (fun _ => 0))) := by rw [eMg]; exact apc hp
    refine ev_blk (B := [(.dup, 1), (.iconst 0, 1), (.iconst 0, 1)]) (pe := 33) (ls' := [some (.ref (o)), some (.int (nI k)), some (.long (e2 (cw S.x k))), none, some (.int (nI 1)), none, none, none, none]) (st' := [.int (nI 0), .int (nI 0), .ref (p), .ref (p)]) ⟨dX11_subwords_30, dX11_subwords_31, dX11_subwords_32, rfl⟩ rfl ?_
    refine ev_iast dX11_subwords_33 fp (vp_in_nI (show 0 < 3 by omega) (by omega)) ?_
    rw [nI_clamp (show 0 < 2 ^ 31 by omega)]
    refine ev_nm (M0 := Mg.set (p) (.inl (0, 3, .inl (upd ((fun _ => 0)) 0 (nI 0))))) (fun M3 eM3 => ?_)
    have f4 : M3[p]? = some (.inl (0, 3, .inl (upd ((fun _ => 0)) 0 (nI 0)))) := by rw [eM3]; exact ev_sg fp
    refine ev_blk (B := [(.dup, 1), (.iconst 1, 1), (.iconst 0, 1)]) (pe := 37) (ls' := [some (.ref (o)), some (.int (nI k)), some (.long (e2 (cw S.x k))), none, some (.int (nI 1)), none, none, none, none]) (st' := [.int (nI 0), .int (nI 1), .ref (p), .ref (p)]) ⟨dX11_subwords_34, dX11_subwords_35, dX11_subwords_36, rfl⟩ rfl ?_
    refine ev_iast dX11_subwords_37 f4 (vp_in_nI (show 1 < 3 by omega) (by omega)) ?_
    rw [nI_clamp (show 1 < 2 ^ 31 by omega)]
    refine ev_nm (M0 := M3.set (p) (.inl (0, 3, .inl (upd (upd ((fun _ => 0)) 0 (nI 0)) 1 (nI 0))))) (fun M5 eM5 => ?_)
    have f6 : M5[p]? = some (.inl (0, 3, .inl (upd (upd ((fun _ => 0)) 0 (nI 0)) 1 (nI 0)))) := by rw [eM5]; exact ev_sg f4
    refine ev_blk (B := [(.dup, 1), (.iconst 2, 1), (.iconst 0, 1)]) (pe := 41) (ls' := [some (.ref (o)), some (.int (nI k)), some (.long (e2 (cw S.x k))), none, some (.int (nI 1)), none, none, none, none]) (st' := [.int (nI 0), .int (nI 2), .ref (p), .ref (p)]) ⟨dX11_subwords_38, dX11_subwords_39, dX11_subwords_40, rfl⟩ rfl ?_
    refine ev_iast dX11_subwords_41 f6 (vp_in_nI (show 2 < 3 by omega) (by omega)) ?_
    rw [nI_clamp (show 2 < 2 ^ 31 by omega)]
    refine ev_nm (M0 := M5.set (p) (.inl (0, 3, .inl (upd (upd (upd ((fun _ => 0)) 0 (nI 0)) 1 (nI 0)) 2 (nI 0))))) (fun M7 eM7 => ?_)
    have f8 : M7[p]? = some (.inl (0, 3, .inl (upd (upd (upd ((fun _ => 0)) 0 (nI 0)) 1 (nI 0)) 2 (nI 0)))) := by rw [eM7]; exact ev_sg f6
    refine ev_blk (B := [(.astore 5, 2), (.iconst 0, 1), (.istore 6, 2)]) (pe := 47) (ls' := [some (.ref (o)), some (.int (nI k)), some (.long (e2 (cw S.x k))), none, some (.int (nI 1)), some (.ref (p)), some (.int (nI 0)), none, none]) (st' := []) ⟨dX11_subwords_42, dX11_subwords_44, dX11_subwords_45, rfl⟩ rfl ?_
    rw [eM7, eM5, eM3, eMg, apset hp, apset hp, apset hp]
    refine ev_mono (fun r M9 hq => ?_) (c_R_sub_l hl o k (cw S.x k) hcw.1 hcw.2 M1 p hp _ 0 _ (Nat.zero_le _) (fun x hx => ?_) (Nat.lt_succ_self _))
    · obtain ⟨q1, X, q2⟩ := hq
      exact ⟨q1, _, X, q2, by rw [eM1]; simp only [List.length_set], f2, fun j hj => by rw [eM1, ev_sn (fun e => hj e.symm)]⟩
    · rw [upd_at, upd_at, upd_at]
      match x, hx with
      | 0, _ => rfl
      | 1, _ => rfl
      | 2, _ => rfl
  · exact absurd (jk.symm.trans q4) (by decide)

set_option maxHeartbeats 4000000 in
set_option maxRecDepth 100000 in
theorem r_subwordsF {l : Launch} (hl : l.stackTraces = false) {M : ev_M} (o : Nat) (S : St) (hS : okS S) (hT10 : S.T.length ≤ 10) (hG3 : S.G.length ≤ 3) (hH20 : S.H.length ≤ 20) (zi : Nat → Int32) (zl : Nat → Int64) (hR : RR M o S zi zl) (a : Int32) (ia : inR a 2 = false) : ev_Mt l m_X11_subwords [.ref (o), .int (a)] M (fun r M1 => r = .inl (some (.int (nI 0))) ∧ ∃ zi' zl', RR M1 o S zi' zl' ∧ zi' 0 = nI 1 ∧ Fr o (o + 31) M M1) := by
  refine ev_body hl rfl (by decide +kernel) (Nat.le_of_ble_eq_true rfl) ?_
  show ev_ l m_X11_subwords 0 0 0 [some (.ref (o)), some (.int (a)), none, none, none, none, none, none, none] [] M _
  refine ev_blk (B := [(.iload_n 1, 1)]) (pe := 1) (ls' := [some (.ref (o)), some (.int (a)), none, none, none, none, none, none, none]) (st' := [.int (a)]) ⟨dX11_subwords_0, rfl⟩ rfl ?_
  refine ev_cSv Y_X11_isChannel L_RX11_138 dX11_subwords_1 ⟨Nat.le_of_ble_eq_true rfl, Nat.le_of_ble_eq_true rfl, Nat.le_of_ble_eq_true rfl, Nat.le_of_ble_eq_true rfl, Nat.le_of_ble_eq_true rfl⟩ (as := [.int (a)]) rfl rfl (c_R_isChannel hl a) ?_
  refine ev_ifB_ne dX11_subwords_4 (tgt := 13) (by decide) (fun q4 => ?_) (fun q4 => ?_)
  · exact absurd (ia.symm.trans q4) (by decide)
  · refine ev_blk (B := [(.aload_n 0, 1), (.iconst 1, 1)]) (pe := 9) (ls' := [some (.ref (o)), some (.int (a)), none, none, none, none, none, none, none]) (st' := [.int (nI 1), .ref (o)]) ⟨dX11_subwords_7, dX11_subwords_8, rfl⟩ rfl ?_
    refine ev_cVv Y_X11_fails L_RX11_144 dX11_subwords_9 ⟨Nat.le_of_ble_eq_true rfl, Nat.le_of_ble_eq_true rfl, Nat.le_of_ble_eq_true rfl, Nat.le_of_ble_eq_true rfl, Nat.le_of_ble_eq_true rfl⟩ hR.z (as := [.int (nI 1)]) rfl rfl (c_R_fails hl o (zi) (zl) hR.z 1) ?_
    refine ev_nm (M0 := M.set o (.inr (10, zo o (ui (zi) 0 (nI 1)) (zl)))) (fun Mf eMf => ?_)
    have ff : Mf[o]? = some (.inr (10, zo o (ui (zi) 0 (nI 1)) (zl))) := by rw [eMf]; exact ev_sg hR.z
    refine ev_iret dX11_subwords_12 rfl (rfl) ⟨Nat.le_of_ble_eq_true rfl, Nat.le_of_ble_eq_true rfl⟩ ?_
    have hF : FX o (o + 31) (o + 31) M Mf := ⟨by rw [eMf]; simp only [List.length_set], fun j hj1 hj2 => by rw [eMf, ev_sn (by omega)]⟩
    exact ⟨rfl, _, _, hR.keep ff ⟨fun k hk => ui_ne (nm hk (by decide)), fun k hk => rfl⟩ hF, rfl, hF.fr (by omega) (by omega)⟩

theorem r_subwords {l : Launch} (hl : l.stackTraces = false) {M : ev_M} (o : Nat) (S : St) (hS : okS S) (hT10 : S.T.length ≤ 10) (hG3 : S.G.length ≤ 3) (hH20 : S.H.length ≤ 20) (zi : Nat → Int32) (zl : Nat → Int64) (hR : RR M o S zi zl) (a : Int32) : ev_Mt l m_X11_subwords [.ref (o), .int a] M (fun r M1 => r = .inl (some (.int (sSub S a).2)) ∧ ∃ zi' zl', RR M1 o S zi' zl' ∧ zi' 0 = nI (sSub S a).1 ∧ Fr o (o + 31) M M1) := by
  rcases inR_c a 2 (by omega) with ⟨k, hk, rfl⟩ | ia
  · have jk : inR (nI k) 2 = true := inR_n hk (by omega)
    have tk : (nI k).toNatClampNeg = k := nI_clamp (by omega)
    have e9 : sSub S (nI k) = (0, nI (1 + sw (cw S.x k) (cw S.x k).length 0 + sw (cw S.x k) (cw S.x k).length 1 + sw (cw S.x k) (cw S.x k).length 2)) := by simp [sSub, jk, tk]
    rw [e9]
    exact r_subwordsT hl o S hS hT10 hG3 hH20 zi zl hR k hk
  · have e9 : sSub S a = (1, 0) := by simp [sSub, ia]
    rw [e9]
    exact r_subwordsF hl o S hS hT10 hG3 hH20 zi zl hR a ia

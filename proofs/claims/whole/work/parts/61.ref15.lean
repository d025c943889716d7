/-! ===== the reference: the analysis ===== -/
/-- nothing changed but the rows of the bases -/
def FB (o : Nat) (M M1 : ev_M) : Prop := M1.length = M.length ∧ ∀ j, j ≠ o + 11 → j ≠ o + 12 → j ≠ o + 14 → j ≠ o + 15 → M1[j]? = M[j]?
theorem FB.rf {o : Nat} {M : ev_M} : FB o M M := ⟨rfl, fun _ _ _ _ _ => rfl⟩
theorem FB.tr {o : Nat} {M M1 M2 : ev_M} (h1 : FB o M M1) (h2 : FB o M1 M2) : FB o M M2 := ⟨h2.1.trans h1.1, fun j a b c d => (h2.2 j a b c d).trans (h1.2 j a b c d)⟩
theorem FB.at {o : Nat} {M M1 : ev_M} (h : FB o M M1) {j : Nat} {c : va_E} (hj : M[j]? = some c) (h1 : j ≠ o + 11) (h2 : j ≠ o + 12) (h3 : j ≠ o + 14) (h4 : j ≠ o + 15) : M1[j]? = some c := (h.2 j h1 h2 h3 h4).trans hj
theorem FB.fx {o : Nat} {M M1 : ev_M} (h : FB o M M1) : FX o (o + 11) (o + 18) M M1 := ⟨h.1, fun j a b => h.2 j (by omega) (by omega) (by omega) (by omega)⟩
theorem lst_ext {L B : List Cf} (h : L.length = B.length) (h2 : ∀ j, j < L.length → cg L j = cg B j) : L = B := by
  apply List.ext_getElem h
  intro i h3 h4
  rw [← cg_get h3, ← cg_get h4]
  exact h2 i h3
theorem PM.fb {M M1 : ev_M} {o : Nat} {L : List Cf} (h : PM M o L) (hf : FB o M M1) : PM M1 o L := by
  obtain ⟨f, g, h, a1, a2, a3, a4⟩ := h
  exact ⟨f, g, h, hf.at a1 (by omega) (by omega) (by omega) (by omega), hf.at a2 (by omega) (by omega) (by omega) (by omega), hf.at a3 (by omega) (by omega) (by omega) (by omega), a4⟩
set_option maxHeartbeats 4000000 in
set_option maxRecDepth 100000 in
theorem c_R_like_l {l : Launch}  {M : ev_M} (o : Nat) (zi : Nat → Int32) (zl : Nat → Int64) (hO : M[o]? = some (.inr (10, zo o zi zl))) (k : Nat) (hk13 : k < 13) (L B : List Cf) (hL : cfs 25 L) (hB : cfs 25 B) (hlt : L.length < 400) (hB30 : B.length ≤ 30) (h28 : zi 28 = nI L.length) (f : Nat → Int32) (g h : Nat → Int64) (h13 : M[o + 13]? = some (.inl (0, 400, .inl f))) (h16 : M[o + 16]? = some (.inl (1, 400, .inr (.inl g)))) (h17 : M[o + 17]? = some (.inl (1, 400, .inr (.inl h)))) (hQm : QP 0 L.length f g h L) (bs bn : Nat → Int32) (bf b2 : Nat → Int64) (b11 : M[o + 11]? = some (.inl (0, 390, .inl bs))) (b12 : M[o + 12]? = some (.inl (0, 13, .inl bn))) (b14 : M[o + 14]? = some (.inl (1, 390, .inr (.inl bf)))) (b15 : M[o + 15]? = some (.inl (1, 390, .inr (.inl b2)))) (hbn : bn k = nI B.length) (hQ : QP (30 * k) B.length bs bf b2 B) : ∀ (n9 : Nat) (i : Nat) (z : Bool), i ≤ L.length → (z = true ↔ L.length = B.length ∧ ∀ j, j < i → cg L j = cg B j) → L.length - i < n9 → ev_ l m_X11_isLikeMade 0 0 21 [some (.ref (o)), some (.int (nI k)), some (.int (ev_b (z))), some (.int (nI i))] [] M (ev_q (.inl (some (.int (ev_b (decide (L = B)))))) M) := by
  intro n9
  induction n9 with
  | zero => intro i z hi hz hm9; exact absurd hm9 (by omega)
  | succ n9 ih =>
    intro i z hi hz hm9
    refine ev_blk (B := [(.iload_n 3, 1), (.aload_n 0, 1)]) (pe := 23) (ls' := [some (.ref (o)), some (.int (nI k)), some (.int (ev_b (z))), some (.int (nI i))]) (st' := [.ref (o), .int (nI i)]) ⟨dX11_isLikeMade_21, dX11_isLikeMade_22, rfl⟩ rfl ?_
    refine ev_getf (v := .int (nI (L.length))) F_RX11_231 dX11_isLikeMade_23 hO (congrArg (fun q => some (Value.int q)) h28) ?_
    refine ev_iN_ge dX11_isLikeMade_26 (tgt := 107) (by decide) (by omega) (by omega) (fun q26 => ?_) (fun q26 => ?_)
    · refine ev_blk (B := [(.iload_n 2, 1)]) (pe := 108) (ls' := [some (.ref (o)), some (.int (nI k)), some (.int (ev_b (z))), some (.int (nI i))]) (st' := [.int (ev_b (z))]) ⟨dX11_isLikeMade_107, rfl⟩ rfl ?_
      refine ev_iret dX11_isLikeMade_108 rfl (ev_b_nar _) ⟨Nat.le_of_ble_eq_true rfl, Nat.le_of_ble_eq_true rfl⟩ ?_
      have e9 : decide (L = B) = z := by
        cases z with
        | true => exact decide_eq_true (lst_ext (hz.mp rfl).1 (fun j hj => (hz.mp rfl).2 j (by omega)))
        | false => exact decide_eq_false (fun e => by have := hz.mpr (by rw [e]; exact ⟨rfl, fun _ _ => rfl⟩); cases this)
      rw [e9]
      exact ⟨rfl, rfl⟩
    · refine ev_blk (B := [(.iload_n 2, 1)]) (pe := 30) (ls' := [some (.ref (o)), some (.int (nI k)), some (.int (ev_b (z))), some (.int (nI i))]) (st' := [.int (ev_b (z))]) ⟨dX11_isLikeMade_29, rfl⟩ rfl ?_
      refine ev_ifB_eq dX11_isLikeMade_30 (tgt := 107) (by decide) (fun q30 => ?_) (fun q30 => ?_)
      · refine ev_blk (B := [(.iload_n 2, 1)]) (pe := 108) (ls' := [some (.ref (o)), some (.int (nI k)), some (.int (ev_b (z))), some (.int (nI i))]) (st' := [.int (ev_b (z))]) ⟨dX11_isLikeMade_107, rfl⟩ rfl ?_
        refine ev_iret dX11_isLikeMade_108 rfl (ev_b_nar _) ⟨Nat.le_of_ble_eq_true rfl, Nat.le_of_ble_eq_true rfl⟩ ?_
        have e9 : decide (L = B) = z := by
          rw [q30]
          exact decide_eq_false (fun e => by have := hz.mpr (by rw [e]; exact ⟨rfl, fun _ _ => rfl⟩); rw [q30] at this; cases this)
        rw [e9]
        exact ⟨rfl, rfl⟩
      · have hln := (hz.mp q30).1
        have hc1 := (cfs_cg hL (show i < L.length by omega)).1
        have hc2 := (cfs_cg hB (show i < B.length by omega)).1
        refine ev_blk (B := [(.aload_n 0, 1)]) (pe := 34) (ls' := [some (.ref (o)), some (.int (nI k)), some (.int (ev_b (z))), some (.int (nI i))]) (st' := [.ref (o)]) ⟨dX11_isLikeMade_33, rfl⟩ rfl ?_
        refine ev_getf (v := .ref (o + 13)) F_RX11_47 dX11_isLikeMade_34 hO rfl ?_
        refine ev_blk (B := [(.iload_n 3, 1)]) (pe := 38) (ls' := [some (.ref (o)), some (.int (nI k)), some (.int (ev_b (z))), some (.int (nI i))]) (st' := [.int (nI i), .ref (o + 13)]) ⟨dX11_isLikeMade_37, rfl⟩ rfl ?_
        refine ev_iald dX11_isLikeMade_38 h13 (vp_in_nI (show i < 400 by omega) (by omega)) ?_
        rw [nI_clamp (show i < 2 ^ 31 by omega)]
        rw [show f i = nI ((cg L i).1) from (hQm.at (by omega)).1]
        refine ev_blk (B := [(.aload_n 0, 1)]) (pe := 40) (ls' := [some (.ref (o)), some (.int (nI k)), some (.int (ev_b (z))), some (.int (nI i))]) (st' := [.ref (o), .int (nI ((cg L i).1))]) ⟨dX11_isLikeMade_39, rfl⟩ rfl ?_
        refine ev_getf (v := .ref (o + 11)) F_RX11_41 dX11_isLikeMade_40 hO rfl ?_
        refine ev_blk (B := [(.bipush 30, 2), (.iload_n 1, 1), (.imul, 1), (.iload_n 3, 1), (.iadd, 1)]) (pe := 49) (ls' := [some (.ref (o)), some (.int (nI k)), some (.int (ev_b (z))), some (.int (nI i))]) (st' := [.int (nI ((30 * k) + i)), .ref (o + 11), .int (nI ((cg L i).1))]) ⟨dX11_isLikeMade_43, dX11_isLikeMade_45, dX11_isLikeMade_46, dX11_isLikeMade_47, dX11_isLikeMade_48, rfl⟩ (by show some (([some (.ref (o)), some (.int (nI k)), some (.int (ev_b (z))), some (.int (nI i))] : ev_L), ([.int (((nI 30) * (nI k)) + (nI i)), .ref (o + 11), .int (nI ((cg L i).1))] : List Value)) = _; rw [pk_mul 30 k, nI_add (30 * k) i]) ?_
        refine ev_iald dX11_isLikeMade_49 b11 (vp_in_nI (show (30 * k) + i < 390 by omega) (by omega)) ?_
        rw [nI_clamp (show (30 * k) + i < 2 ^ 31 by omega)]
        rw [show bs ((30 * k) + i) = nI ((cg B i).1) from (hQ i (by omega)).1]
        refine ev_iN_ne dX11_isLikeMade_50 (tgt := 99) (by decide) (by omega) (by omega) (fun q50 => ?_) (fun q50 => ?_)
        · refine ev_blk (B := [(.iconst 0, 1), (.istore_n 2, 1), (.iinc 3 1, 3)]) (pe := 104) (ls' := [some (.ref (o)), some (.int (nI k)), some (.int (nI 0)), some (.int (nI (i + 1)))]) (st' := []) ⟨dX11_isLikeMade_99, dX11_isLikeMade_100, dX11_isLikeMade_101, rfl⟩ (by show some (([some (.ref (o)), some (.int (nI k)), some (.int (nI 0)), some (.int ((nI i) + Int32.ofInt (1)))] : ev_L), ([] : List Value)) = _; rw [ev_inc1 i]) ?_
          refine ev_goto (tgt := 21) dX11_isLikeMade_104 (by decide) ?_
          refine ih (i + 1) false (by omega) (iff_of_false (by decide) (fun z => ?_)) (by omega)
          have e := z.2 i (by omega)
          exact q50 (congrArg Prod.fst e)
        · refine ev_blk (B := [(.aload_n 0, 1)]) (pe := 54) (ls' := [some (.ref (o)), some (.int (nI k)), some (.int (ev_b (z))), some (.int (nI i))]) (st' := [.ref (o)]) ⟨dX11_isLikeMade_53, rfl⟩ rfl ?_
          refine ev_getf (v := .ref (o + 16)) F_RX11_56 dX11_isLikeMade_54 hO rfl ?_
          refine ev_blk (B := [(.iload_n 3, 1)]) (pe := 58) (ls' := [some (.ref (o)), some (.int (nI k)), some (.int (ev_b (z))), some (.int (nI i))]) (st' := [.int (nI i), .ref (o + 16)]) ⟨dX11_isLikeMade_57, rfl⟩ rfl ?_
          refine ev_lald dX11_isLikeMade_58 h16 (vp_in_nI (show i < 400 by omega) (by omega)) ?_
          rw [nI_clamp (show i < 2 ^ 31 by omega)]
          rw [show g i = e2 (cg L i).2.1 from (hQm.at (by omega)).2.1]
          refine ev_blk (B := [(.aload_n 0, 1)]) (pe := 60) (ls' := [some (.ref (o)), some (.int (nI k)), some (.int (ev_b (z))), some (.int (nI i))]) (st' := [.ref (o), .long (e2 (cg L i).2.1)]) ⟨dX11_isLikeMade_59, rfl⟩ rfl ?_
          refine ev_getf (v := .ref (o + 14)) F_RX11_50 dX11_isLikeMade_60 hO rfl ?_
          refine ev_blk (B := [(.bipush 30, 2), (.iload_n 1, 1), (.imul, 1), (.iload_n 3, 1), (.iadd, 1)]) (pe := 69) (ls' := [some (.ref (o)), some (.int (nI k)), some (.int (ev_b (z))), some (.int (nI i))]) (st' := [.int (nI ((30 * k) + i)), .ref (o + 14), .long (e2 (cg L i).2.1)]) ⟨dX11_isLikeMade_63, dX11_isLikeMade_65, dX11_isLikeMade_66, dX11_isLikeMade_67, dX11_isLikeMade_68, rfl⟩ (by show some (([some (.ref (o)), some (.int (nI k)), some (.int (ev_b (z))), some (.int (nI i))] : ev_L), ([.int (((nI 30) * (nI k)) + (nI i)), .ref (o + 14), .long (e2 (cg L i).2.1)] : List Value)) = _; rw [pk_mul 30 k, nI_add (30 * k) i]) ?_
          refine ev_lald dX11_isLikeMade_69 b14 (vp_in_nI (show (30 * k) + i < 390 by omega) (by omega)) ?_
          rw [nI_clamp (show (30 * k) + i < 2 ^ 31 by omega)]
          rw [show bf ((30 * k) + i) = e2 (cg B i).2.1 from (hQ i (by omega)).2.1]
          refine ev_blk (B := [(.lcmp, 1)]) (pe := 71) (ls' := [some (.ref (o)), some (.int (nI k)), some (.int (ev_b (z))), some (.int (nI i))]) (st' := [.int (lg_cmp (e2 (cg L i).2.1) (e2 (cg B i).2.1))]) ⟨dX11_isLikeMade_70, rfl⟩ rfl ?_
          refine ev_lc_ne dX11_isLikeMade_71 (tgt := 99) (by decide) (fun q71 => ?_) (fun q71 => ?_)
          · have q71 := mt (wl_eq (q2_62 (cfs_cg hL (show i < L.length by omega)).2.1 (cfs_cg hL (show i < L.length by omega)).2.2.1) (q2_62 (cfs_cg hB (show i < B.length by omega)).2.1 (cfs_cg hB (show i < B.length by omega)).2.2.1)).mpr q71
            refine ev_blk (B := [(.iconst 0, 1), (.istore_n 2, 1), (.iinc 3 1, 3)]) (pe := 104) (ls' := [some (.ref (o)), some (.int (nI k)), some (.int (nI 0)), some (.int (nI (i + 1)))]) (st' := []) ⟨dX11_isLikeMade_99, dX11_isLikeMade_100, dX11_isLikeMade_101, rfl⟩ (by show some (([some (.ref (o)), some (.int (nI k)), some (.int (nI 0)), some (.int ((nI i) + Int32.ofInt (1)))] : ev_L), ([] : List Value)) = _; rw [ev_inc1 i]) ?_
            refine ev_goto (tgt := 21) dX11_isLikeMade_104 (by decide) ?_
            refine ih (i + 1) false (by omega) (iff_of_false (by decide) (fun z => ?_)) (by omega)
            have e := z.2 i (by omega)
            exact q71 (congrArg (fun z : Cf => n2 z.2.1) e)
          · have q71 := (wl_eq (q2_62 (cfs_cg hL (show i < L.length by omega)).2.1 (cfs_cg hL (show i < L.length by omega)).2.2.1) (q2_62 (cfs_cg hB (show i < B.length by omega)).2.1 (cfs_cg hB (show i < B.length by omega)).2.2.1)).mp q71
            refine ev_blk (B := [(.aload_n 0, 1)]) (pe := 75) (ls' := [some (.ref (o)), some (.int (nI k)), some (.int (ev_b (z))), some (.int (nI i))]) (st' := [.ref (o)]) ⟨dX11_isLikeMade_74, rfl⟩ rfl ?_
            refine ev_getf (v := .ref (o + 17)) F_RX11_59 dX11_isLikeMade_75 hO rfl ?_
            refine ev_blk (B := [(.iload_n 3, 1)]) (pe := 79) (ls' := [some (.ref (o)), some (.int (nI k)), some (.int (ev_b (z))), some (.int (nI i))]) (st' := [.int (nI i), .ref (o + 17)]) ⟨dX11_isLikeMade_78, rfl⟩ rfl ?_
            refine ev_lald dX11_isLikeMade_79 h17 (vp_in_nI (show i < 400 by omega) (by omega)) ?_
            rw [nI_clamp (show i < 2 ^ 31 by omega)]
            rw [show h i = e2 (cg L i).2.2 from (hQm.at (by omega)).2.2]
            refine ev_blk (B := [(.aload_n 0, 1)]) (pe := 81) (ls' := [some (.ref (o)), some (.int (nI k)), some (.int (ev_b (z))), some (.int (nI i))]) (st' := [.ref (o), .long (e2 (cg L i).2.2)]) ⟨dX11_isLikeMade_80, rfl⟩ rfl ?_
            refine ev_getf (v := .ref (o + 15)) F_RX11_53 dX11_isLikeMade_81 hO rfl ?_
            refine ev_blk (B := [(.bipush 30, 2), (.iload_n 1, 1), (.imul, 1), (.iload_n 3, 1), (.iadd, 1)]) (pe := 90) (ls' := [some (.ref (o)), some (.int (nI k)), some (.int (ev_b (z))), some (.int (nI i))]) (st' := [.int (nI ((30 * k) + i)), .ref (o + 15), .long (e2 (cg L i).2.2)]) ⟨dX11_isLikeMade_84, dX11_isLikeMade_86, dX11_isLikeMade_87, dX11_isLikeMade_88, dX11_isLikeMade_89, rfl⟩ (by show some (([some (.ref (o)), some (.int (nI k)), some (.int (ev_b (z))), some (.int (nI i))] : ev_L), ([.int (((nI 30) * (nI k)) + (nI i)), .ref (o + 15), .long (e2 (cg L i).2.2)] : List Value)) = _; rw [pk_mul 30 k, nI_add (30 * k) i]) ?_
            refine ev_lald dX11_isLikeMade_90 b15 (vp_in_nI (show (30 * k) + i < 390 by omega) (by omega)) ?_
            rw [nI_clamp (show (30 * k) + i < 2 ^ 31 by omega)]
            rw [show b2 ((30 * k) + i) = e2 (cg B i).2.2 from (hQ i (by omega)).2.2]
            refine ev_blk (B := [(.lcmp, 1)]) (pe := 92) (ls' := [some (.ref (o)), some (.int (nI k)), some (.int (ev_b (z))), some (.int (nI i))]) (st' := [.int (lg_cmp (e2 (cg L i).2.2) (e2 (cg B i).2.2))]) ⟨dX11_isLikeMade_91, rfl⟩ rfl ?_
            refine ev_lc_ne dX11_isLikeMade_92 (tgt := 99) (by decide) (fun q92 => ?_) (fun q92 => ?_)
            · have q92 := mt (wl_eq (q2_62 (cfs_cg hL (show i < L.length by omega)).2.2.2.1 (cfs_cg hL (show i < L.length by omega)).2.2.2.2) (q2_62 (cfs_cg hB (show i < B.length by omega)).2.2.2.1 (cfs_cg hB (show i < B.length by omega)).2.2.2.2)).mpr q92
              refine ev_blk (B := [(.iconst 0, 1), (.istore_n 2, 1), (.iinc 3 1, 3)]) (pe := 104) (ls' := [some (.ref (o)), some (.int (nI k)), some (.int (nI 0)), some (.int (nI (i + 1)))]) (st' := []) ⟨dX11_isLikeMade_99, dX11_isLikeMade_100, dX11_isLikeMade_101, rfl⟩ (by show some (([some (.ref (o)), some (.int (nI k)), some (.int (nI 0)), some (.int ((nI i) + Int32.ofInt (1)))] : ev_L), ([] : List Value)) = _; rw [ev_inc1 i]) ?_
              refine ev_goto (tgt := 21) dX11_isLikeMade_104 (by decide) ?_
              refine ih (i + 1) false (by omega) (iff_of_false (by decide) (fun z => ?_)) (by omega)
              have e := z.2 i (by omega)
              exact q92 (congrArg (fun z : Cf => n2 z.2.2) e)
            · have q92 := (wl_eq (q2_62 (cfs_cg hL (show i < L.length by omega)).2.2.2.1 (cfs_cg hL (show i < L.length by omega)).2.2.2.2) (q2_62 (cfs_cg hB (show i < B.length by omega)).2.2.2.1 (cfs_cg hB (show i < B.length by omega)).2.2.2.2)).mp q92
              refine ev_blk (B := [(.iconst 1, 1)]) (pe := 96) (ls' := [some (.ref (o)), some (.int (nI k)), some (.int (ev_b (z))), some (.int (nI i))]) (st' := [.int (nI 1)]) ⟨dX11_isLikeMade_95, rfl⟩ rfl ?_
              refine ev_goto (tgt := 100) dX11_isLikeMade_96 (by decide) ?_
              refine ev_blk (B := [(.istore_n 2, 1), (.iinc 3 1, 3)]) (pe := 104) (ls' := [some (.ref (o)), some (.int (nI k)), some (.int (nI 1)), some (.int (nI (i + 1)))]) (st' := []) ⟨dX11_isLikeMade_100, dX11_isLikeMade_101, rfl⟩ (by show some (([some (.ref (o)), some (.int (nI k)), some (.int (nI 1)), some (.int ((nI i) + Int32.ofInt (1)))] : ev_L), ([] : List Value)) = _; rw [ev_inc1 i]) ?_
              refine ev_goto (tgt := 21) dX11_isLikeMade_104 (by decide) ?_
              refine ih (i + 1) true (by omega) (iff_of_true rfl ⟨hln, fun j hj => ?_⟩) (by omega)
              by_cases e : j = i
              · subst e
                exact Prod.ext q50 (Prod.ext (n2_inj (cfs_cg hL (by omega)).2.1 (cfs_cg hB (by omega)).2.1 q71) (n2_inj (cfs_cg hL (by omega)).2.2.2.1 (cfs_cg hB (by omega)).2.2.2.1 q92))
              · exact (hz.mp q30).2 j (by omega)

set_option maxHeartbeats 4000000 in
set_option maxRecDepth 100000 in
theorem c_R_isLikeMade {l : Launch} (hl : l.stackTraces = false) {M : ev_M} (o : Nat) (zi : Nat → Int32) (zl : Nat → Int64) (hO : M[o]? = some (.inr (10, zo o zi zl))) (k : Nat) (hk13 : k < 13) (L B : List Cf) (hL : cfs 25 L) (hB : cfs 25 B) (hlt : L.length < 400) (hB30 : B.length ≤ 30) (h28 : zi 28 = nI L.length) (hPM : PM M o L) (hPB : PB M o k B) : ev_Mt l m_X11_isLikeMade [.ref (o), .int (nI k)] M (ev_q (.inl (some (.int (ev_b (decide (L = B)))))) M) := by
  obtain ⟨f, g, h, h13, h16, h17, hQm⟩ := hPM
  obtain ⟨bs, bn, bf, b2, b11, b12, b14, b15, hbn, hQ⟩ := hPB
  refine ev_body hl rfl (by decide +kernel) (Nat.le_of_ble_eq_true rfl) ?_
  show ev_ l m_X11_isLikeMade 0 0 0 [some (.ref (o)), some (.int (nI k)), none, none] [] M _
  refine ev_blk (B := [(.aload_n 0, 1)]) (pe := 1) (ls' := [some (.ref (o)), some (.int (nI k)), none, none]) (st' := [.ref (o)]) ⟨dX11_isLikeMade_0, rfl⟩ rfl ?_
  refine ev_getf (v := .int (nI (L.length))) F_RX11_231 dX11_isLikeMade_1 hO (congrArg (fun q => some (Value.int q)) h28) ?_
  refine ev_blk (B := [(.aload_n 0, 1)]) (pe := 5) (ls' := [some (.ref (o)), some (.int (nI k)), none, none]) (st' := [.ref (o), .int (nI (L.length))]) ⟨dX11_isLikeMade_4, rfl⟩ rfl ?_
  refine ev_getf (v := .ref (o + 12)) F_RX11_44 dX11_isLikeMade_5 hO rfl ?_
  refine ev_blk (B := [(.iload_n 1, 1)]) (pe := 9) (ls' := [some (.ref (o)), some (.int (nI k)), none, none]) (st' := [.int (nI k), .ref (o + 12), .int (nI (L.length))]) ⟨dX11_isLikeMade_8, rfl⟩ rfl ?_
  refine ev_iald dX11_isLikeMade_9 b12 (vp_in_nI (show k < 13 by omega) (by omega)) ?_
  rw [nI_clamp (show k < 2 ^ 31 by omega)]
  rw [show bn k = nI (B.length) from hbn]
  refine ev_iN_ne dX11_isLikeMade_10 (tgt := 17) (by decide) (by omega) (by omega) (fun q10 => ?_) (fun q10 => ?_)
  · refine ev_blk (B := [(.iconst 0, 1), (.istore_n 2, 1), (.iconst 0, 1), (.istore_n 3, 1)]) (pe := 21) (ls' := [some (.ref (o)), some (.int (nI k)), some (.int (nI 0)), some (.int (nI 0))]) (st' := []) ⟨dX11_isLikeMade_17, dX11_isLikeMade_18, dX11_isLikeMade_19, dX11_isLikeMade_20, rfl⟩ rfl ?_
    exact c_R_like_l o zi zl hO k hk13 L B hL hB hlt hB30 h28 f g h h13 h16 h17 hQm bs bn bf b2 b11 b12 b14 b15 hbn hQ _ 0 false (Nat.zero_le _) (iff_of_false (by decide) (fun z => q10 z.1)) (Nat.lt_succ_self _)
  · refine ev_blk (B := [(.iconst 1, 1)]) (pe := 14) (ls' := [some (.ref (o)), some (.int (nI k)), none, none]) (st' := [.int (nI 1)]) ⟨dX11_isLikeMade_13, rfl⟩ rfl ?_
    refine ev_goto (tgt := 18) dX11_isLikeMade_14 (by decide) ?_
    refine ev_blk (B := [(.istore_n 2, 1), (.iconst 0, 1), (.istore_n 3, 1)]) (pe := 21) (ls' := [some (.ref (o)), some (.int (nI k)), some (.int (nI 1)), some (.int (nI 0))]) (st' := []) ⟨dX11_isLikeMade_18, dX11_isLikeMade_19, dX11_isLikeMade_20, rfl⟩ rfl ?_
    exact c_R_like_l o zi zl hO k hk13 L B hL hB hlt hB30 h28 f g h h13 h16 h17 hQm bs bn bf b2 b11 b12 b14 b15 hbn hQ _ 0 true (Nat.zero_le _) (iff_of_true rfl ⟨q10, fun j hj => absurd hj (Nat.not_lt_zero _)⟩) (Nat.lt_succ_self _)

set_option maxHeartbeats 4000000 in
set_option maxRecDepth 100000 in
theorem c_R_stores_l {l : Launch}   (o : Nat) (zi : Nat → Int32) (zl : Nat → Int64) (k : Nat) (hk13 : k < 13) (L : List Cf) (hL30 : L.length ≤ 30) (hL : cfs 25 L) (h28 : zi 28 = nI L.length) (f : Nat → Int32) (g h : Nat → Int64) (hQm : QP 0 L.length f g h L) (bs bn : Nat → Int32) (bf b2 : Nat → Int64) (M0 : ev_M) : ∀ (n9 : Nat) (i : Nat) (M : ev_M) (cs : Nat → Int32) (cn : Nat → Int32) (cf : Nat → Int64) (c2 : Nat → Int64), i ≤ L.length → M[o]? = some (.inr (10, zo o zi zl)) → M[o + 13]? = some (.inl (0, 400, .inl f)) → M[o + 16]? = some (.inl (1, 400, .inr (.inl g))) → M[o + 17]? = some (.inl (1, 400, .inr (.inl h))) → M[o + 11]? = some (.inl (0, 390, .inl cs)) → M[o + 12]? = some (.inl (0, 13, .inl cn)) → M[o + 14]? = some (.inl (1, 390, .inr (.inl cf))) → M[o + 15]? = some (.inl (1, 390, .inr (.inl c2))) → cn k = nI L.length → (∀ j, j ≠ k → cn j = bn j) → FB o M0 M → (∀ j, j < i → cs (30 * k + j) = nI (cg L j).1 ∧ cf (30 * k + j) = e2 (cg L j).2.1 ∧ c2 (30 * k + j) = e2 (cg L j).2.2) → (∀ j, j < 30 * k ∨ 30 * k + 30 ≤ j → cs j = bs j ∧ cf j = bf j ∧ c2 j = b2 j) → L.length - i < n9 → ev_ l m_X11_stores 0 0 12 [some (.ref (o)), some (.int (nI k)), some (.int (nI i))] [] M (fun r M1 => r = .inl none ∧ ∃ bs' bn' bf' b2', M1[o + 11]? = some (.inl (0, 390, .inl bs')) ∧ M1[o + 12]? = some (.inl (0, 13, .inl bn')) ∧ M1[o + 14]? = some (.inl (1, 390, .inr (.inl bf'))) ∧ M1[o + 15]? = some (.inl (1, 390, .inr (.inl b2'))) ∧ bn' k = nI L.length ∧ QP (30 * k) L.length bs' bf' b2' L ∧ (∀ j, j ≠ k → bn' j = bn j) ∧ (∀ j, j < 30 * k ∨ 30 * k + 30 ≤ j → bs' j = bs j ∧ bf' j = bf j ∧ b2' j = b2 j) ∧ FB o M0 M1) := by
  intro n9
  induction n9 with
  | zero => intro i M cs cn cf c2 hi hO h13 h16 h17 b11 b12 b14 b15 hcn hcj hF ha hb hm9; exact absurd hm9 (by omega)
  | succ n9 ih =>
    intro i M cs cn cf c2 hi hO h13 h16 h17 b11 b12 b14 b15 hcn hcj hF ha hb hm9
    refine ev_blk (B := [(.iload_n 2, 1), (.aload_n 0, 1)]) (pe := 14) (ls' := [some (.ref (o)), some (.int (nI k)), some (.int (nI i))]) (st' := [.ref (o), .int (nI i)]) ⟨dX11_stores_12, dX11_stores_13, rfl⟩ rfl ?_
    refine ev_getf (v := .int (nI (L.length))) F_RX11_231 dX11_stores_14 hO (congrArg (fun q => some (Value.int q)) h28) ?_
    refine ev_iN_ge dX11_stores_17 (tgt := 77) (by decide) (by omega) (by omega) (fun q17 => ?_) (fun q17 => ?_)
    · refine ev_vret dX11_stores_77 rfl ⟨Nat.le_of_ble_eq_true rfl, Nat.le_of_ble_eq_true rfl⟩ ?_
      have e7 : i = L.length := by omega
      subst e7
      exact ⟨rfl, cs, cn, cf, c2, b11, b12, b14, b15, hcn, ha, hcj, hb, hF⟩
    · refine ev_blk (B := [(.aload_n 0, 1)]) (pe := 21) (ls' := [some (.ref (o)), some (.int (nI k)), some (.int (nI i))]) (st' := [.ref (o)]) ⟨dX11_stores_20, rfl⟩ rfl ?_
      refine ev_getf (v := .ref (o + 11)) F_RX11_41 dX11_stores_21 hO rfl ?_
      refine ev_blk (B := [(.bipush 30, 2), (.iload_n 1, 1), (.imul, 1), (.iload_n 2, 1), (.iadd, 1), (.aload_n 0, 1)]) (pe := 31) (ls' := [some (.ref (o)), some (.int (nI k)), some (.int (nI i))]) (st' := [.ref (o), .int (nI ((30 * k) + i)), .ref (o + 11)]) ⟨dX11_stores_24, dX11_stores_26, dX11_stores_27, dX11_stores_28, dX11_stores_29, dX11_stores_30, rfl⟩ (by show some (([some (.ref (o)), some (.int (nI k)), some (.int (nI i))] : ev_L), ([.ref (o), .int (((nI 30) * (nI k)) + (nI i)), .ref (o + 11)] : List Value)) = _; rw [pk_mul 30 k, nI_add (30 * k) i]) ?_
      refine ev_getf (v := .ref (o + 13)) F_RX11_47 dX11_stores_31 hO rfl ?_
      refine ev_blk (B := [(.iload_n 2, 1)]) (pe := 35) (ls' := [some (.ref (o)), some (.int (nI k)), some (.int (nI i))]) (st' := [.int (nI i), .ref (o + 13), .int (nI ((30 * k) + i)), .ref (o + 11)]) ⟨dX11_stores_34, rfl⟩ rfl ?_
      refine ev_iald dX11_stores_35 h13 (vp_in_nI (show i < 400 by omega) (by omega)) ?_
      rw [nI_clamp (show i < 2 ^ 31 by omega)]
      rw [show f i = nI ((cg L i).1) from (hQm.at (by omega)).1]
      refine ev_iast dX11_stores_36 b11 (vp_in_nI (show (30 * k) + i < 390 by omega) (by omega)) ?_
      rw [nI_clamp (show (30 * k) + i < 2 ^ 31 by omega)]
      refine ev_nm (M0 := M.set (o + 11) (.inl (0, 390, .inl (upd cs ((30 * k) + i) (nI ((cg L i).1)))))) (fun M1 eM1 => ?_)
      have f2 : M1[o]? = some (.inr (10, zo o (zi) (zl))) := by rw [eM1, ev_sn (by omega)]; exact hO
      have f3 : M1[o + 13]? = some (.inl (0, 400, .inl (f))) := by rw [eM1, ev_sn (by omega)]; exact h13
      have f4 : M1[o + 16]? = some (.inl (1, 400, .inr (.inl (g)))) := by rw [eM1, ev_sn (by omega)]; exact h16
      have f5 : M1[o + 17]? = some (.inl (1, 400, .inr (.inl (h)))) := by rw [eM1, ev_sn (by omega)]; exact h17
      have f6 : M1[o + 11]? = some (.inl (0, 390, .inl (upd cs ((30 * k) + i) (nI ((cg L i).1))))) := by rw [eM1]; exact ev_sg b11
      have f7 : M1[o + 12]? = some (.inl (0, 13, .inl (cn))) := by rw [eM1, ev_sn (by omega)]; exact b12
      have f8 : M1[o + 14]? = some (.inl (1, 390, .inr (.inl (cf)))) := by rw [eM1, ev_sn (by omega)]; exact b14
      have f9 : M1[o + 15]? = some (.inl (1, 390, .inr (.inl (c2)))) := by rw [eM1, ev_sn (by omega)]; exact b15
      refine ev_blk (B := [(.aload_n 0, 1)]) (pe := 38) (ls' := [some (.ref (o)), some (.int (nI k)), some (.int (nI i))]) (st' := [.ref (o)]) ⟨dX11_stores_37, rfl⟩ rfl ?_
      refine ev_getf (v := .ref (o + 14)) F_RX11_50 dX11_stores_38 f2 rfl ?_
      refine ev_blk (B := [(.bipush 30, 2), (.iload_n 1, 1), (.imul, 1), (.iload_n 2, 1), (.iadd, 1), (.aload_n 0, 1)]) (pe := 48) (ls' := [some (.ref (o)), some (.int (nI k)), some (.int (nI i))]) (st' := [.ref (o), .int (nI ((30 * k) + i)), .ref (o + 14)]) ⟨dX11_stores_41, dX11_stores_43, dX11_stores_44, dX11_stores_45, dX11_stores_46, dX11_stores_47, rfl⟩ (by show some (([some (.ref (o)), some (.int (nI k)), some (.int (nI i))] : ev_L), ([.ref (o), .int (((nI 30) * (nI k)) + (nI i)), .ref (o + 14)] : List Value)) = _; rw [pk_mul 30 k, nI_add (30 * k) i]) ?_
      refine ev_getf (v := .ref (o + 16)) F_RX11_56 dX11_stores_48 f2 rfl ?_
      refine ev_blk (B := [(.iload_n 2, 1)]) (pe := 52) (ls' := [some (.ref (o)), some (.int (nI k)), some (.int (nI i))]) (st' := [.int (nI i), .ref (o + 16), .int (nI ((30 * k) + i)), .ref (o + 14)]) ⟨dX11_stores_51, rfl⟩ rfl ?_
      refine ev_lald dX11_stores_52 f4 (vp_in_nI (show i < 400 by omega) (by omega)) ?_
      rw [nI_clamp (show i < 2 ^ 31 by omega)]
      rw [show g i = e2 (cg L i).2.1 from (hQm.at (by omega)).2.1]
      refine ev_last dX11_stores_53 f8 (vp_in_nI (show (30 * k) + i < 390 by omega) (by omega)) ?_
      rw [nI_clamp (show (30 * k) + i < 2 ^ 31 by omega)]
      refine ev_nm (M0 := M1.set (o + 14) (.inl (1, 390, .inr (.inl (vp_updL cf ((30 * k) + i) (e2 (cg L i).2.1)))))) (fun M10 eM10 => ?_)
      have f11 : M10[o]? = some (.inr (10, zo o (zi) (zl))) := by rw [eM10, ev_sn (by omega)]; exact f2
      have f12 : M10[o + 13]? = some (.inl (0, 400, .inl (f))) := by rw [eM10, ev_sn (by omega)]; exact f3
      have f13 : M10[o + 16]? = some (.inl (1, 400, .inr (.inl (g)))) := by rw [eM10, ev_sn (by omega)]; exact f4
      have f14 : M10[o + 17]? = some (.inl (1, 400, .inr (.inl (h)))) := by rw [eM10, ev_sn (by omega)]; exact f5
      have f15 : M10[o + 11]? = some (.inl (0, 390, .inl (upd cs ((30 * k) + i) (nI ((cg L i).1))))) := by rw [eM10, ev_sn (by omega)]; exact f6
      have f16 : M10[o + 12]? = some (.inl (0, 13, .inl (cn))) := by rw [eM10, ev_sn (by omega)]; exact f7
      have f17 : M10[o + 14]? = some (.inl (1, 390, .inr (.inl (vp_updL cf ((30 * k) + i) (e2 (cg L i).2.1))))) := by rw [eM10]; exact ev_sg f8
      have f18 : M10[o + 15]? = some (.inl (1, 390, .inr (.inl (c2)))) := by rw [eM10, ev_sn (by omega)]; exact f9
      refine ev_blk (B := [(.aload_n 0, 1)]) (pe := 55) (ls' := [some (.ref (o)), some (.int (nI k)), some (.int (nI i))]) (st' := [.ref (o)]) ⟨dX11_stores_54, rfl⟩ rfl ?_
      refine ev_getf (v := .ref (o + 15)) F_RX11_53 dX11_stores_55 f11 rfl ?_
      refine ev_blk (B := [(.bipush 30, 2), (.iload_n 1, 1), (.imul, 1), (.iload_n 2, 1), (.iadd, 1), (.aload_n 0, 1)]) (pe := 65) (ls' := [some (.ref (o)), some (.int (nI k)), some (.int (nI i))]) (st' := [.ref (o), .int (nI ((30 * k) + i)), .ref (o + 15)]) ⟨dX11_stores_58, dX11_stores_60, dX11_stores_61, dX11_stores_62, dX11_stores_63, dX11_stores_64, rfl⟩ (by show some (([some (.ref (o)), some (.int (nI k)), some (.int (nI i))] : ev_L), ([.ref (o), .int (((nI 30) * (nI k)) + (nI i)), .ref (o + 15)] : List Value)) = _; rw [pk_mul 30 k, nI_add (30 * k) i]) ?_
      refine ev_getf (v := .ref (o + 17)) F_RX11_59 dX11_stores_65 f11 rfl ?_
      refine ev_blk (B := [(.iload_n 2, 1)]) (pe := 69) (ls' := [some (.ref (o)), some (.int (nI k)), some (.int (nI i))]) (st' := [.int (nI i), .ref (o + 17), .int (nI ((30 * k) + i)), .ref (o + 15)]) ⟨dX11_stores_68, rfl⟩ rfl ?_
      refine ev_lald dX11_stores_69 f14 (vp_in_nI (show i < 400 by omega) (by omega)) ?_
      rw [nI_clamp (show i < 2 ^ 31 by omega)]
      rw [show h i = e2 (cg L i).2.2 from (hQm.at (by omega)).2.2]
      refine ev_last dX11_stores_70 f18 (vp_in_nI (show (30 * k) + i < 390 by omega) (by omega)) ?_
      rw [nI_clamp (show (30 * k) + i < 2 ^ 31 by omega)]
      refine ev_nm (M0 := M10.set (o + 15) (.inl (1, 390, .inr (.inl (vp_updL c2 ((30 * k) + i) (e2 (cg L i).2.2)))))) (fun M19 eM19 => ?_)
      have f20 : M19[o]? = some (.inr (10, zo o (zi) (zl))) := by rw [eM19, ev_sn (by omega)]; exact f11
      have f21 : M19[o + 13]? = some (.inl (0, 400, .inl (f))) := by rw [eM19, ev_sn (by omega)]; exact f12
      have f22 : M19[o + 16]? = some (.inl (1, 400, .inr (.inl (g)))) := by rw [eM19, ev_sn (by omega)]; exact f13
      have f23 : M19[o + 17]? = some (.inl (1, 400, .inr (.inl (h)))) := by rw [eM19, ev_sn (by omega)]; exact f14
      have f24 : M19[o + 11]? = some (.inl (0, 390, .inl (upd cs ((30 * k) + i) (nI ((cg L i).1))))) := by rw [eM19, ev_sn (by omega)]; exact f15
      have f25 : M19[o + 12]? = some (.inl (0, 13, .inl (cn))) := by rw [eM19, ev_sn (by omega)]; exact f16
      have f26 : M19[o + 14]? = some (.inl (1, 390, .inr (.inl (vp_updL cf ((30 * k) + i) (e2 (cg L i).2.1))))) := by rw [eM19, ev_sn (by omega)]; exact f17
      have f27 : M19[o + 15]? = some (.inl (1, 390, .inr (.inl (vp_updL c2 ((30 * k) + i) (e2 (cg L i).2.2))))) := by rw [eM19]; exact ev_sg f18
      refine ev_blk (B := [(.iinc 2 1, 3)]) (pe := 74) (ls' := [some (.ref (o)), some (.int (nI k)), some (.int (nI (i + 1)))]) (st' := []) ⟨dX11_stores_71, rfl⟩ (by show some (([some (.ref (o)), some (.int (nI k)), some (.int ((nI i) + Int32.ofInt (1)))] : ev_L), ([] : List Value)) = _; rw [ev_inc1 i]) ?_
      refine ev_goto (tgt := 12) dX11_stores_74 (by decide) ?_
      refine ih (i + 1) _ _ _ _ _ (by omega) f20 f21 f22 f23 f24 f25 f26 f27 hcn hcj (hF.tr ⟨by rw [eM19, eM10, eM1]; simp only [List.length_set], fun j hj1 hj2 hj3 hj4 => by rw [eM19, ev_sn (by omega), eM10, ev_sn (by omega), eM1, ev_sn (by omega)]⟩) (fun j hj => ?_) (fun j hj => ?_) (by omega)
      · rw [upd_at, updL_at, updL_at]
        by_cases e : j = i
        · subst e
          rw [if_pos rfl, if_pos rfl, if_pos rfl]; exact ⟨rfl, rfl, rfl⟩
        · rw [if_neg (by omega), if_neg (by omega), if_neg (by omega)]
          exact ha j (by omega)
      · rw [upd_at, updL_at, updL_at, if_neg (by omega), if_neg (by omega), if_neg (by omega)]
        exact hb j hj

set_option maxHeartbeats 4000000 in
set_option maxRecDepth 100000 in
theorem c_R_stores {l : Launch} (hl : l.stackTraces = false) {M : ev_M} (o : Nat) (zi : Nat → Int32) (zl : Nat → Int64) (hO : M[o]? = some (.inr (10, zo o zi zl))) (k : Nat) (hk13 : k < 13) (L : List Cf) (hL30 : L.length ≤ 30) (hL : cfs 25 L) (h28 : zi 28 = nI L.length) (hPM : PM M o L) (bs bn : Nat → Int32) (bf b2 : Nat → Int64) (b11 : M[o + 11]? = some (.inl (0, 390, .inl bs))) (b12 : M[o + 12]? = some (.inl (0, 13, .inl bn))) (b14 : M[o + 14]? = some (.inl (1, 390, .inr (.inl bf)))) (b15 : M[o + 15]? = some (.inl (1, 390, .inr (.inl b2)))) : ev_Mt l m_X11_stores [.ref (o), .int (nI k)] M (fun r M1 => r = .inl none ∧ ∃ bs' bn' bf' b2', M1[o + 11]? = some (.inl (0, 390, .inl bs')) ∧ M1[o + 12]? = some (.inl (0, 13, .inl bn')) ∧ M1[o + 14]? = some (.inl (1, 390, .inr (.inl bf'))) ∧ M1[o + 15]? = some (.inl (1, 390, .inr (.inl b2'))) ∧ bn' k = nI L.length ∧ QP (30 * k) L.length bs' bf' b2' L ∧ (∀ j, j ≠ k → bn' j = bn j) ∧ (∀ j, j < 30 * k ∨ 30 * k + 30 ≤ j → bs' j = bs j ∧ bf' j = bf j ∧ b2' j = b2 j) ∧ FB o M M1) := by
  obtain ⟨f, g, h, h13, h16, h17, hQm⟩ := hPM
  refine ev_body hl rfl (by decide +kernel) (Nat.le_of_ble_eq_true rfl) ?_
  show ev_ l m_X11_stores 0 0 0 [some (.ref (o)), some (.int (nI k)), none] [] M _
  refine ev_blk (B := [(.aload_n 0, 1)]) (pe := 1) (ls' := [some (.ref (o)), some (.int (nI k)), none]) (st' := [.ref (o)]) ⟨dX11_stores_0, rfl⟩ rfl ?_
  refine ev_getf (v := .ref (o + 12)) F_RX11_44 dX11_stores_1 hO rfl ?_
  refine ev_blk (B := [(.iload_n 1, 1), (.aload_n 0, 1)]) (pe := 6) (ls' := [some (.ref (o)), some (.int (nI k)), none]) (st' := [.ref (o), .int (nI k), .ref (o + 12)]) ⟨dX11_stores_4, dX11_stores_5, rfl⟩ rfl ?_
  refine ev_getf (v := .int (nI (L.length))) F_RX11_231 dX11_stores_6 hO (congrArg (fun q => some (Value.int q)) h28) ?_
  refine ev_iast dX11_stores_9 b12 (vp_in_nI (show k < 13 by omega) (by omega)) ?_
  rw [nI_clamp (show k < 2 ^ 31 by omega)]
  refine ev_nm (M0 := M.set (o + 12) (.inl (0, 13, .inl (upd bn k (nI (L.length)))))) (fun M1 eM1 => ?_)
  have f2 : M1[o]? = some (.inr (10, zo o (zi) (zl))) := by rw [eM1, ev_sn (by omega)]; exact hO
  have f3 : M1[o + 13]? = some (.inl (0, 400, .inl (f))) := by rw [eM1, ev_sn (by omega)]; exact h13
  have f4 : M1[o + 16]? = some (.inl (1, 400, .inr (.inl (g)))) := by rw [eM1, ev_sn (by omega)]; exact h16
  have f5 : M1[o + 17]? = some (.inl (1, 400, .inr (.inl (h)))) := by rw [eM1, ev_sn (by omega)]; exact h17
  have f6 : M1[o + 11]? = some (.inl (0, 390, .inl (bs))) := by rw [eM1, ev_sn (by omega)]; exact b11
  have f7 : M1[o + 12]? = some (.inl (0, 13, .inl (upd bn k (nI (L.length))))) := by rw [eM1]; exact ev_sg b12
  have f8 : M1[o + 14]? = some (.inl (1, 390, .inr (.inl (bf)))) := by rw [eM1, ev_sn (by omega)]; exact b14
  have f9 : M1[o + 15]? = some (.inl (1, 390, .inr (.inl (b2)))) := by rw [eM1, ev_sn (by omega)]; exact b15
  refine ev_blk (B := [(.iconst 0, 1), (.istore_n 2, 1)]) (pe := 12) (ls' := [some (.ref (o)), some (.int (nI k)), some (.int (nI 0))]) (st' := []) ⟨dX11_stores_10, dX11_stores_11, rfl⟩ rfl ?_
  exact c_R_stores_l o zi zl k hk13 L hL30 hL h28 f g h hQm bs bn bf b2 M _ 0 _ bs _ bf b2 (Nat.zero_le _) f2 f3 f4 f5 f6 f7 f8 f9 (by rw [upd_at, if_pos rfl]) (fun j hj => by rw [upd_at, if_neg hj]) ⟨by rw [eM1]; simp only [List.length_set], fun j hj1 hj2 hj3 hj4 => by rw [eM1, ev_sn (by omega)]⟩ (fun j hj => absurd hj (Nat.not_lt_zero _)) (fun j _ => ⟨rfl, rfl, rfl⟩) (Nat.lt_succ_self _)

/-- the bases up to a round stand -/
def PBs (M : ev_M) (o : Nat) (T : List Tr) (G : List Cf) (k : Nat) : Prop := ∃ bs bn bf b2, M[o + 11]? = some (.inl (0, 390, .inl bs)) ∧ M[o + 12]? = some (.inl (0, 13, .inl bn)) ∧ M[o + 14]? = some (.inl (1, 390, .inr (.inl bf))) ∧ M[o + 15]? = some (.inl (1, 390, .inr (.inl b2))) ∧ ∀ j, j < k → (bl T G j).length ≤ 30 ∧ bn j = nI (bl T G j).length ∧ QP (30 * j) (bl T G j).length bs bf b2 (bl T G j)
theorem PBs.fm {M M1 : ev_M} {o k : Nat} {T : List Tr} {G : List Cf} (h : PBs M o T G k) (hf : FM o M M1) : PBs M1 o T G k := by
  obtain ⟨bs, bn, bf, b2, a1, a2, a3, a4, a5⟩ := h
  exact ⟨bs, bn, bf, b2, hf.at a1 (by omega) (by omega) (by omega) (by omega), hf.at a2 (by omega) (by omega) (by omega) (by omega), hf.at a3 (by omega) (by omega) (by omega) (by omega), hf.at a4 (by omega) (by omega) (by omega) (by omega), a5⟩
theorem PBs.fx {M M1 : ev_M} {o k lo hi : Nat} {T : List Tr} {G : List Cf} (h : PBs M o T G k) (hf : FX o lo hi M M1) (h2 : o + 18 ≤ lo ∨ hi ≤ o + 11) : PBs M1 o T G k := by
  obtain ⟨bs, bn, bf, b2, a1, a2, a3, a4, a5⟩ := h
  exact ⟨bs, bn, bf, b2, hf.at a1 (by omega) (by omega), hf.at a2 (by omega) (by omega), hf.at a3 (by omega) (by omega), hf.at a4 (by omega) (by omega), a5⟩
theorem PBs.pb {M : ev_M} {o k j : Nat} {T : List Tr} {G : List Cf} (h : PBs M o T G k) (hj : j < k) : PB M o j (bl T G j) := by
  obtain ⟨bs, bn, bf, b2, a1, a2, a3, a4, a5⟩ := h
  exact ⟨bs, bn, bf, b2, a1, a2, a3, a4, (a5 j hj).2.1, (a5 j hj).2.2⟩
theorem PBs.len {M : ev_M} {o k j : Nat} {T : List Tr} {G : List Cf} (h : PBs M o T G k) (hj : j < k) : (bl T G j).length ≤ 30 := by
  obtain ⟨bs, bn, bf, b2, a1, a2, a3, a4, a5⟩ := h
  exact (a5 j hj).1
/-- a new analysis -/
theorem RR.an {M M1 : ev_M} {o : Nat} {S : St} {zi zi' : Nat → Int32} {zl : Nat → Int64} (h : RR M o S zi zl) (h1 : M1[o]? = some (.inr (10, zo o zi' zl))) (ki : ∀ k, k ∈ [2, 3, 4, 20, 42, 45, 50, 51, 52, 55] → zi' k = zi k) (hf : FX o (o + 11) (o + 18) M M1) (ha : PA M1 o S.T S.G (zi' 29) (zi' 30) (zi' 31)) : RR M1 o S zi' zl := by
  refine ⟨h1, ?_, h.T.fx hf (by omega) (by omega), h.H.fx hf (by omega), h.y.fx hf (by omega), h.G.fx hf (by omega) (by omega), ha, h.u.fx hf (by omega), h.x.fx hf (by omega), h.k.fx hf (by omega), h.s.fx hf (by omega)⟩
  have := h.p
  unfold PZ at this ⊢
  rw [ki 2 (by decide), ki 3 (by decide), ki 4 (by decide), ki 20 (by decide), ki 42 (by decide), ki 45 (by decide), ki 55 (by decide), ki 50 (by decide), ki 51 (by decide), ki 52 (by decide)]
  exact this
theorem PA.mk {M : ev_M} {o k : Nat} {T : List Tr} {G : List Cf} {L : List Cf} {la co : Int32} (h1 : PBs M o T G k) (h2 : PM M o L) (hc : co = ev_b (rn T G).1) (hl : (rn T G).1 = true → la = nI (rn T G).2 ∧ (rn T G).2 < 13 ∧ (rn T G).2 < k) : PA M o T G la (ev_b true) co := by
  obtain ⟨bs, bn, bf, b2, a1, a2, a3, a4, a5⟩ := h1
  obtain ⟨f, g, h, c1, c2, c3, c4⟩ := h2
  exact ⟨bs, bn, f, bf, b2, g, h, a1, a2, c1, a3, a4, c2, c3, true, rfl, fun _ => ⟨hc, fun q => ⟨(hl q).1, (hl q).2.1, fun j hj => a5 j (Nat.lt_of_le_of_lt hj (hl q).2.2)⟩⟩⟩
theorem PA.pm {M : ev_M} {o : Nat} {T : List Tr} {G : List Cf} {la fr co : Int32} (h : PA M o T G la fr co) : PM M o [] ∧ PBs M o T G 0 := by
  obtain ⟨bs, bn, ms, bf, b2, mf, m2, a1, a2, a3, a4, a5, a6, a7, a8⟩ := h
  exact ⟨⟨ms, mf, m2, a3, a6, a7, fun i hi => absurd hi (Nat.not_lt_zero _)⟩, bs, bn, bf, b2, a1, a2, a4, a5, fun j hj => absurd hj (Nat.not_lt_zero _)⟩
theorem PA.fb {M : ev_M} {o : Nat} {T : List Tr} {G : List Cf} {la fr co : Int32} (h : PA M o T G la fr co) : ∃ f, fr = ev_b f := by
  obtain ⟨bs, bn, ms, bf, b2, mf, m2, a1, a2, a3, a4, a5, a6, a7, f, a8, a9⟩ := h
  exact ⟨f, a8⟩
theorem PA.co {M : ev_M} {o : Nat} {T : List Tr} {G : List Cf} {la fr co : Int32} (h : PA M o T G la fr co) (hf : fr = ev_b true) : co = ev_b (rn T G).1 ∧ ((rn T G).1 = true → la = nI (rn T G).2 ∧ (rn T G).2 < 13 ∧ PBs M o T G ((rn T G).2 + 1)) := by
  obtain ⟨bs, bn, ms, bf, b2, mf, m2, a1, a2, a3, a4, a5, a6, a7, f, a8, a9⟩ := h
  have e : f = true := by
    cases f with
    | true => rfl
    | false => rw [hf] at a8; exact absurd a8 (by decide)
  exact ⟨(a9 e).1, fun q => ⟨((a9 e).2 q).1, ((a9 e).2 q).2.1, bs, bn, bf, b2, a1, a2, a4, a5, fun j hj => ((a9 e).2 q).2.2 j (Nat.le_of_lt_succ hj)⟩⟩
set_option maxHeartbeats 4000000 in
set_option maxRecDepth 100000 in
theorem c_R_ref_k {l : Launch} (hl : l.stackTraces = false)  (o : Nat) (S : St) (hS : okS S) (hT10 : S.T.length ≤ 10) (hG3 : S.G.length ≤ 3) (zi0 : Nat → Int32) (zl : Nat → Int64) (M0 : ev_M) (hR : RR M0 o S zi0 zl) (fT : Nat → Int32) (hPT : RP5 S.T.length fT S.T) (hGw : ∀ x, x ∈ S.G → wkf x) : ∀ (n9 : Nat) (k : Nat) (la : Nat) (M : ev_M) (zi : Nat → Int32), k ≤ 13 → M[o]? = some (.inr (10, zo o zi zl)) → zi 28 = nI (bl S.T S.G k).length → zi 30 = ev_b true → zi 31 = ev_b false → (∀ j, j ≠ 28 → j ≠ 29 → j ≠ 30 → j ≠ 31 → zi j = zi0 j) → PM M o (bl S.T S.G k) → PBs M o S.T S.G k → FX o (o + 11) (o + 18) M0 M → M[o + 1]? = some (.inl (0, 50, .inl fT)) → rl S.T S.G (13 - k) k la = rn S.T S.G → (bl S.T S.G k).length ≤ 330 → 13 - k < n9 → ev_ l m_X11_refreshes 0 0 63 [some (.ref (o)), some (.int (nI k))] [] M (fun r M1 => r = .inl none ∧ ∃ zi', RR M1 o S zi' zl ∧ zi' 30 = ev_b true ∧ (∀ j, j ≠ 28 → j ≠ 29 → j ≠ 30 → j ≠ 31 → zi' j = zi0 j) ∧ FX o (o + 11) (o + 18) M0 M1) := by
  intro n9
  induction n9 with
  | zero => intro k la M zi hk hO h28 h30 h31 hz hPM hPB hF hfT hrl hlb hm9; exact absurd hm9 (by omega)
  | succ n9 ih =>
    intro k la M zi hk hO h28 h30 h31 hz hPM hPB hF hfT hrl hlb hm9
    refine ev_blk (B := [(.iload_n 1, 1), (.bipush 12, 2)]) (pe := 66) (ls' := [some (.ref (o)), some (.int (nI k))]) (st' := [.int (nI 12), .int (nI k)]) ⟨dX11_refreshes_63, dX11_refreshes_64, rfl⟩ rfl ?_
    refine ev_iN_gt dX11_refreshes_66 (tgt := 114) (by decide) (by omega) (by omega) (fun q66 => ?_) (fun q66 => ?_)
    · refine ev_vret dX11_refreshes_114 rfl ⟨Nat.le_of_ble_eq_true rfl, Nat.le_of_ble_eq_true rfl⟩ ?_
      have hrs := rl_stop (T := S.T) (G := S.G) (k := k) (la := la) (co := false) ((if_neg (by decide)).trans hrl) (Or.inl (by omega))
      have hr1 : (rn S.T S.G).1 = false := by rw [hrs]
      exact ⟨rfl, zi, hR.an hO (fun q hq => hz q (nm hq (by decide)) (nm hq (by decide)) (nm hq (by decide)) (nm hq (by decide))) hF (by rw [h30]; exact PA.mk hPB hPM (by rw [h31, hr1]) (fun q => by rw [hr1] at q; cases q)), h30, hz, hF⟩
    · refine ev_blk (B := [(.aload_n 0, 1)]) (pe := 70) (ls' := [some (.ref (o)), some (.int (nI k))]) (st' := [.ref (o)]) ⟨dX11_refreshes_69, rfl⟩ rfl ?_
      refine ev_getf (v := .int (nI ((bl S.T S.G k).length))) F_RX11_231 dX11_refreshes_70 hO (congrArg (fun q => some (Value.int q)) h28) ?_
      refine ev_blk (B := [(.bipush 30, 2)]) (pe := 75) (ls' := [some (.ref (o)), some (.int (nI k))]) (st' := [.int (nI 30), .int (nI ((bl S.T S.G k).length))]) ⟨dX11_refreshes_73, rfl⟩ rfl ?_
      refine ev_iN_le dX11_refreshes_75 (tgt := 79) (by decide) (by omega) (by omega) (fun q75 => ?_) (fun q75 => ?_)
      · refine ev_blk (B := [(.aload_n 0, 1), (.iload_n 1, 1)]) (pe := 81) (ls' := [some (.ref (o)), some (.int (nI k))]) (st' := [.int (nI k), .ref (o)]) ⟨dX11_refreshes_79, dX11_refreshes_80, rfl⟩ rfl ?_
        have hB13 : cfs (10 + k) (bl S.T S.G k) := bl_ok hS.T hS.G k
        obtain ⟨bs, bn, bf, b2, b11, b12, b14, b15, hbb⟩ := hPB
        refine ev_cVn Y_X11_stores L_RX11_252 dX11_refreshes_81 ⟨Nat.le_of_ble_eq_true rfl, Nat.le_of_ble_eq_true rfl, Nat.le_of_ble_eq_true rfl, Nat.le_of_ble_eq_true rfl, Nat.le_of_ble_eq_true rfl⟩ hO (as := [.int (nI k)]) rfl rfl (c_R_stores hl o zi zl hO k (by omega) (bl S.T S.G k) (by omega) (hB13.le (by omega)) h28 hPM bs bn bf b2 b11 b12 b14 b15) (fun M1 hL1 hB1 => ?_)
        obtain ⟨cs, cn, cf, c2, c11, c12, c14, c15, hcn, hcQ, hcj, hco, hFB⟩ := hB1
        have hPB1 : PBs M1 o S.T S.G (k + 1) := by
          refine ⟨cs, cn, cf, c2, c11, c12, c14, c15, fun j hj => ?_⟩
          by_cases e : j = k
          · subst e; exact ⟨by omega, hcn, hcQ⟩
          · obtain ⟨d1, d2, d3⟩ := hbb j (by omega)
            refine ⟨d1, (hcj j e).trans d2, fun i hi => ?_⟩
            rw [(hco (30 * j + i) (by omega)).1, (hco (30 * j + i) (by omega)).2.1, (hco (30 * j + i) (by omega)).2.2]
            exact d3 i hi
        have hO1 := hFB.at hO (by omega) (by omega) (by omega) (by omega)
        have hT1 := hFB.at hfT (by omega) (by omega) (by omega) (by omega)
        refine ev_blk (B := [(.aload_n 0, 1), (.iload_n 1, 1)]) (pe := 86) (ls' := [some (.ref (o)), some (.int (nI k))]) (st' := [.int (nI k), .ref (o)]) ⟨dX11_refreshes_84, dX11_refreshes_85, rfl⟩ rfl ?_
        refine ev_cVn Y_X11_makesNext L_RX11_255 dX11_refreshes_86 ⟨Nat.le_of_ble_eq_true rfl, Nat.le_of_ble_eq_true rfl, Nat.le_of_ble_eq_true rfl, Nat.le_of_ble_eq_true rfl, Nat.le_of_ble_eq_true rfl⟩ hO1 (as := [.int (nI k)]) rfl rfl (c_R_makesNext hl o zi zl hO1 fT S.T hPT hT10 hS.T hT1 ((hz 2 (by decide) (by decide) (by decide) (by decide)).trans hR.p.1) k (by omega) (bl S.T S.G k) (by omega) (hB13.le (by omega)) (hPB1.pb (Nat.lt_succ_self k)) (bl S.T S.G k) (hPM.fb hFB)) (fun M2 hL2 hB2 => ?_)
        obtain ⟨Ai, A0, A28, AK, AM, AF⟩ := hB2
        rw [rot_bl hS.T hGw k] at A28 AM
        refine ev_blk (B := [(.aload_n 0, 1), (.iload_n 1, 1)]) (pe := 91) (ls' := [some (.ref (o)), some (.int (nI k))]) (st' := [.int (nI k), .ref (o)]) ⟨dX11_refreshes_89, dX11_refreshes_90, rfl⟩ rfl ?_
        have hB14 : cfs (10 + (k + 1)) (bl S.T S.G (k + 1)) := bl_ok hS.T hS.G (k + 1)
        have hrl9 := rot_len (T := S.T) (B := bl S.T S.G k) S.T.length
        rw [rot_bl hS.T hGw k] at hrl9
        have hrm : S.T.length * (bl S.T S.G k).length ≤ 10 * 30 := Nat.mul_le_mul hT10 (by omega)
        have hPB2 := hPB1.fm AF
        refine ev_cVv Y_X11_isLikeMade L_RX11_258 dX11_refreshes_91 ⟨Nat.le_of_ble_eq_true rfl, Nat.le_of_ble_eq_true rfl, Nat.le_of_ble_eq_true rfl, Nat.le_of_ble_eq_true rfl, Nat.le_of_ble_eq_true rfl⟩ A0 (as := [.int (nI k)]) rfl rfl (c_R_isLikeMade hl o Ai zl A0 k (by omega) (bl S.T S.G (k + 1)) (bl S.T S.G k) (hB14.le (by omega)) (hB13.le (by omega)) (by omega) (by omega) A28 AM (hPB2.pb (Nat.lt_succ_self k))) ?_
        refine ev_ifB_eq dX11_refreshes_94 (tgt := 108) (by decide) (fun q94 => ?_) (fun q94 => ?_)
        · refine ev_blk (B := [(.iinc 1 1, 3)]) (pe := 111) (ls' := [some (.ref (o)), some (.int (nI (k + 1)))]) (st' := []) ⟨dX11_refreshes_108, rfl⟩ (by show some (([some (.ref (o)), some (.int ((nI k) + Int32.ofInt (1)))] : ev_L), ([] : List Value)) = _; rw [ev_inc1 k]) ?_
          refine ev_goto (tgt := 63) dX11_refreshes_111 (by decide) ?_
          have hch : chg S.T S.G (k + 1) = true := by
            cases q : chg S.T S.G (k + 1) with
            | true => rfl
            | false => exact absurd ((chg_iff k).mp q) (of_decide_eq_false q94)
          have hg9 := rl_go (T := S.T) (G := S.G) (k := k) (la := la) ((if_neg (by decide)).trans hrl) (by omega) (by omega)
          rw [hch] at hg9
          exact ih (k + 1) k _ _ (by omega) A0 A28 ((AK 30 (by decide)).trans h30) ((AK 31 (by decide)).trans h31) (fun j a b c d => (AK j a).trans (hz j a b c d)) AM hPB2 (hF.tr (hFB.fx.tr AF.fx)) (AF.at hT1 (by omega) (by omega) (by omega) (by omega)) hg9 (by omega) (by omega)
        · refine ev_blk (B := [(.aload_n 0, 1), (.iconst 1, 1)]) (pe := 99) (ls' := [some (.ref (o)), some (.int (nI k))]) (st' := [.int (nI 1), .ref (o)]) ⟨dX11_refreshes_97, dX11_refreshes_98, rfl⟩ rfl ?_
          refine ev_put F_RX11_249 dX11_refreshes_99 A0 (Nat.le_of_ble_eq_true rfl) (fun _ _ => ⟨rfl, rfl⟩) ?_
          rw [zs_31]
          refine ev_nm (M0 := M2.set (o) (.inr (10, zo o (ui (Ai) 31 (nI 1)) (zl)))) (fun M3 eM3 => ?_)
          have f4 : M3[o]? = some (.inr (10, zo o (ui (Ai) 31 (nI 1)) (zl))) := by rw [eM3]; exact ev_sg A0
          refine ev_blk (B := [(.aload_n 0, 1), (.iload_n 1, 1)]) (pe := 104) (ls' := [some (.ref (o)), some (.int (nI k))]) (st' := [.int (nI k), .ref (o)]) ⟨dX11_refreshes_102, dX11_refreshes_103, rfl⟩ rfl ?_
          refine ev_put F_RX11_261 dX11_refreshes_104 f4 (Nat.le_of_ble_eq_true rfl) (fun _ _ => ⟨rfl, rfl⟩) ?_
          rw [zs_29]
          refine ev_nm (M0 := M3.set (o) (.inr (10, zo o (ui (ui (Ai) 31 (nI 1)) 29 (nI k)) (zl)))) (fun M5 eM5 => ?_)
          have f6 : M5[o]? = some (.inr (10, zo o (ui (ui (Ai) 31 (nI 1)) 29 (nI k)) (zl))) := by rw [eM5]; exact ev_sg f4
          refine ev_vret dX11_refreshes_107 rfl ⟨Nat.le_of_ble_eq_true rfl, Nat.le_of_ble_eq_true rfl⟩ ?_
          have W7 : FX o (o + 31) (o + 31) M2 M5 := ⟨by rw [eM5, eM3]; simp only [List.length_set], fun j hj1 hj2 => by rw [eM5, ev_sn (by omega), eM3, ev_sn (by omega)]⟩
          have hch : chg S.T S.G (k + 1) = false := (chg_iff k).mpr (of_decide_eq_true q94)
          have hg9 := rl_go (T := S.T) (G := S.G) (k := k) (la := la) ((if_neg (by decide)).trans hrl) (by omega) (by omega)
          rw [hch] at hg9
          have hrs : (true, k) = rn S.T S.G := hg9
          have hF2 : FX o (o + 11) (o + 18) M0 M5 := ((hF.tr (hFB.fx.tr AF.fx)).tr (W7.em (by omega)))
          exact ⟨rfl, _, hR.an f6 (fun q hq => (ui_ne (nm hq (by decide))).trans ((ui_ne (nm hq (by decide))).trans ((AK q (nm hq (by decide))).trans (hz q (nm hq (by decide)) (nm hq (by decide)) (nm hq (by decide)) (nm hq (by decide)))))) hF2 (by rw [show (ui (ui Ai 31 (nI 1)) 29 (nI k)) 30 = ev_b true from (AK 30 (by decide)).trans h30]; exact PA.mk (hPB2.fx W7 (by omega)) (AM.fx W7 (by omega)) (by rw [← hrs]; rfl) (fun _ => by rw [← hrs]; exact ⟨rfl, by show k < 13; omega, Nat.lt_succ_self k⟩)), (AK 30 (by decide)).trans h30, fun j a b c d => (ui_ne b).trans ((ui_ne d).trans ((AK j a).trans (hz j a b c d))), hF2⟩
      · refine ev_vret dX11_refreshes_78 rfl ⟨Nat.le_of_ble_eq_true rfl, Nat.le_of_ble_eq_true rfl⟩ ?_
        have hrs := rl_stop (T := S.T) (G := S.G) (k := k) (la := la) (co := false) ((if_neg (by decide)).trans hrl) (Or.inr (Or.inl (by omega)))
        have hr1 : (rn S.T S.G).1 = false := by rw [hrs]
        exact ⟨rfl, zi, hR.an hO (fun q hq => hz q (nm hq (by decide)) (nm hq (by decide)) (nm hq (by decide)) (nm hq (by decide))) hF (by rw [h30]; exact PA.mk hPB hPM (by rw [h31, hr1]) (fun q => by rw [hr1] at q; cases q)), h30, hz, hF⟩

set_option maxHeartbeats 4000000 in
set_option maxRecDepth 100000 in
theorem c_R_ref_g {l : Launch} (hl : l.stackTraces = false)  (o : Nat) (S : St) (hS : okS S) (hT10 : S.T.length ≤ 10) (hG3 : S.G.length ≤ 3) (zi0 : Nat → Int32) (zl : Nat → Int64) (M0 : ev_M) (hR : RR M0 o S zi0 zl) (fT : Nat → Int32) (hPT : RP5 S.T.length fT S.T) (hGw : ∀ x, x ∈ S.G → wkf x) (gf : Nat → Int32) (gg gh : Nat → Int64) (hQ : QP 0 S.G.length gf gg gh S.G) : ∀ (n9 : Nat) (i : Nat) (M : ev_M) (zi : Nat → Int32), i ≤ S.G.length → M[o]? = some (.inr (10, zo o zi zl)) → zi 28 = nI (gsn S.G i).length → zi 30 = ev_b true → zi 31 = ev_b false → (∀ j, j ≠ 28 → j ≠ 29 → j ≠ 30 → j ≠ 31 → zi j = zi0 j) → PM M o (gsn S.G i) → PBs M o S.T S.G 0 → FX o (o + 11) (o + 18) M0 M → M[o + 1]? = some (.inl (0, 50, .inl fT)) → M[o + 8]? = some (.inl (0, 3, .inl gf)) → M[o + 9]? = some (.inl (1, 3, .inr (.inl gg))) → M[o + 10]? = some (.inl (1, 3, .inr (.inl gh))) → S.G.length - i < n9 → ev_ l m_X11_refreshes 0 0 25 [some (.ref (o)), some (.int (nI i))] [] M (fun r M1 => r = .inl none ∧ ∃ zi', RR M1 o S zi' zl ∧ zi' 30 = ev_b true ∧ (∀ j, j ≠ 28 → j ≠ 29 → j ≠ 30 → j ≠ 31 → zi' j = zi0 j) ∧ FX o (o + 11) (o + 18) M0 M1) := by
  intro n9
  induction n9 with
  | zero => intro i M zi hi hO h28 h30 h31 hz hPM hPB hF hfT g8 g9 g10 hm9; exact absurd hm9 (by omega)
  | succ n9 ih =>
    intro i M zi hi hO h28 h30 h31 hz hPM hPB hF hfT g8 g9 g10 hm9
    refine ev_blk (B := [(.iload_n 1, 1), (.aload_n 0, 1)]) (pe := 27) (ls' := [some (.ref (o)), some (.int (nI i))]) (st' := [.ref (o), .int (nI i)]) ⟨dX11_refreshes_25, dX11_refreshes_26, rfl⟩ rfl ?_
    refine ev_getf (v := .int (nI (S.G.length))) F_RX11_225 dX11_refreshes_27 hO (congrArg (fun q => some (Value.int q)) ((hz 20 (by decide) (by decide) (by decide) (by decide)).trans hR.p.2.2.2.2.2.1)) ?_
    refine ev_iN_ge dX11_refreshes_30 (tgt := 61) (by decide) (by omega) (by omega) (fun q30 => ?_) (fun q30 => ?_)
    · refine ev_blk (B := [(.iconst 0, 1), (.istore_n 1, 1)]) (pe := 63) (ls' := [some (.ref (o)), some (.int (nI 0))]) (st' := []) ⟨dX11_refreshes_61, dX11_refreshes_62, rfl⟩ rfl ?_
      have e7 : i = S.G.length := by omega
      subst e7
      have hln := gsn_len (G := S.G) S.G.length
      exact c_R_ref_k hl o S hS hT10 hG3 zi0 zl M0 hR fT hPT hGw _ 0 0 M zi (Nat.zero_le _) hO h28 h30 h31 hz hPM hPB hF hfT (rl_0 hG3 0) (by show (gsn S.G S.G.length).length ≤ 330; omega) (Nat.lt_succ_self _)
    · refine ev_blk (B := [(.aload_n 0, 1), (.aload_n 0, 1)]) (pe := 35) (ls' := [some (.ref (o)), some (.int (nI i))]) (st' := [.ref (o), .ref (o)]) ⟨dX11_refreshes_33, dX11_refreshes_34, rfl⟩ rfl ?_
      refine ev_getf (v := .ref (o + 8)) F_RX11_32 dX11_refreshes_35 hO rfl ?_
      refine ev_blk (B := [(.iload_n 1, 1)]) (pe := 39) (ls' := [some (.ref (o)), some (.int (nI i))]) (st' := [.int (nI i), .ref (o + 8), .ref (o)]) ⟨dX11_refreshes_38, rfl⟩ rfl ?_
      refine ev_iald dX11_refreshes_39 g8 (vp_in_nI (show i < 3 by omega) (by omega)) ?_
      rw [nI_clamp (show i < 2 ^ 31 by omega)]
      rw [show gf i = nI ((cg S.G i).1) from (hQ.at (by omega)).1]
      refine ev_blk (B := [(.aload_n 0, 1)]) (pe := 41) (ls' := [some (.ref (o)), some (.int (nI i))]) (st' := [.ref (o), .int (nI ((cg S.G i).1)), .ref (o)]) ⟨dX11_refreshes_40, rfl⟩ rfl ?_
      refine ev_getf (v := .ref (o + 9)) F_RX11_35 dX11_refreshes_41 hO rfl ?_
      refine ev_blk (B := [(.iload_n 1, 1)]) (pe := 45) (ls' := [some (.ref (o)), some (.int (nI i))]) (st' := [.int (nI i), .ref (o + 9), .int (nI ((cg S.G i).1)), .ref (o)]) ⟨dX11_refreshes_44, rfl⟩ rfl ?_
      refine ev_lald dX11_refreshes_45 g9 (vp_in_nI (show i < 3 by omega) (by omega)) ?_
      rw [nI_clamp (show i < 2 ^ 31 by omega)]
      rw [show gg i = e2 (cg S.G i).2.1 from (hQ.at (by omega)).2.1]
      refine ev_blk (B := [(.aload_n 0, 1)]) (pe := 47) (ls' := [some (.ref (o)), some (.int (nI i))]) (st' := [.ref (o), .long (e2 (cg S.G i).2.1), .int (nI ((cg S.G i).1)), .ref (o)]) ⟨dX11_refreshes_46, rfl⟩ rfl ?_
      refine ev_getf (v := .ref (o + 10)) F_RX11_38 dX11_refreshes_47 hO rfl ?_
      refine ev_blk (B := [(.iload_n 1, 1)]) (pe := 51) (ls' := [some (.ref (o)), some (.int (nI i))]) (st' := [.int (nI i), .ref (o + 10), .long (e2 (cg S.G i).2.1), .int (nI ((cg S.G i).1)), .ref (o)]) ⟨dX11_refreshes_50, rfl⟩ rfl ?_
      refine ev_lald dX11_refreshes_51 g10 (vp_in_nI (show i < 3 by omega) (by omega)) ?_
      rw [nI_clamp (show i < 2 ^ 31 by omega)]
      rw [show gh i = e2 (cg S.G i).2.2 from (hQ.at (by omega)).2.2]
      have hln := gsn_len (G := S.G) i
      refine ev_cVn Y_X11_makes L_RX11_242 dX11_refreshes_52 ⟨Nat.le_of_ble_eq_true rfl, Nat.le_of_ble_eq_true rfl, Nat.le_of_ble_eq_true rfl, Nat.le_of_ble_eq_true rfl, Nat.le_of_ble_eq_true rfl⟩ hO (as := [.int (nI ((cg S.G i).1)), .long (e2 (cg S.G i).2.1), .long (e2 (cg S.G i).2.2)]) rfl rfl (c_R_makes hl o zi zl hO (gsn S.G i) (by omega) ((gsn_ok hS.G i (by omega)).le (by omega)) h28 hPM (cg S.G i) ((cfs_cg hS.G (show i < S.G.length by omega)).le (by omega))) (fun M1 hL1 hB1 => ?_)
      obtain ⟨Ai, A0, A28, AK, AM, AF⟩ := hB1
      refine ev_blk (B := [(.iinc 1 1, 3)]) (pe := 58) (ls' := [some (.ref (o)), some (.int (nI (i + 1)))]) (st' := []) ⟨dX11_refreshes_55, rfl⟩ (by show some (([some (.ref (o)), some (.int ((nI i) + Int32.ofInt (1)))] : ev_L), ([] : List Value)) = _; rw [ev_inc1 i]) ?_
      refine ev_goto (tgt := 25) dX11_refreshes_58 (by decide) ?_
      exact ih (i + 1) _ _ (by omega) A0 A28 ((AK 30 (by decide)).trans h30) ((AK 31 (by decide)).trans h31) (fun j a b c d => (AK j a).trans (hz j a b c d)) AM (hPB.fm AF) (hF.tr AF.fx) (AF.at hfT (by omega) (by omega) (by omega) (by omega)) (AF.at g8 (by omega) (by omega) (by omega) (by omega)) (AF.at g9 (by omega) (by omega) (by omega) (by omega)) (AF.at g10 (by omega) (by omega) (by omega) (by omega)) (by omega)

set_option maxHeartbeats 4000000 in
set_option maxRecDepth 100000 in
theorem c_R_refreshes {l : Launch} (hl : l.stackTraces = false) {M : ev_M} (o : Nat) (S : St) (hS : okS S) (hT10 : S.T.length ≤ 10) (hG3 : S.G.length ≤ 3) (zi : Nat → Int32) (zl : Nat → Int64) (hR : RR M o S zi zl) : ev_Mt l m_X11_refreshes [.ref (o)] M (fun r M1 => r = .inl none ∧ ∃ zi', RR M1 o S zi' zl ∧ zi' 30 = ev_b true ∧ (∀ j, j ≠ 28 → j ≠ 29 → j ≠ 30 → j ≠ 31 → zi' j = zi j) ∧ FX o (o + 11) (o + 18) M M1) := by
  obtain ⟨f0, hf0⟩ := hR.a.fb
  refine ev_body hl rfl (by decide +kernel) (Nat.le_of_ble_eq_true rfl) ?_
  show ev_ l m_X11_refreshes 0 0 0 [some (.ref (o)), none] [] M _
  refine ev_blk (B := [(.aload_n 0, 1)]) (pe := 1) (ls' := [some (.ref (o)), none]) (st' := [.ref (o)]) ⟨dX11_refreshes_0, rfl⟩ rfl ?_
  refine ev_getf (v := .int (ev_b (f0))) F_RX11_126 dX11_refreshes_1 hR.z (congrArg (fun q => some (Value.int q)) hf0) ?_
  refine ev_ifB_eq dX11_refreshes_4 (tgt := 8) (by decide) (fun q4 => ?_) (fun q4 => ?_)
  · refine ev_blk (B := [(.aload_n 0, 1), (.iconst 1, 1)]) (pe := 10) (ls' := [some (.ref (o)), none]) (st' := [.int (nI 1), .ref (o)]) ⟨dX11_refreshes_8, dX11_refreshes_9, rfl⟩ rfl ?_
    refine ev_put F_RX11_126 dX11_refreshes_10 hR.z (Nat.le_of_ble_eq_true rfl) (fun _ _ => ⟨rfl, rfl⟩) ?_
    rw [zs_30]
    refine ev_nm (M0 := M.set (o) (.inr (10, zo o (ui (zi) 30 (nI 1)) (zl)))) (fun M1 eM1 => ?_)
    have f2 : M1[o]? = some (.inr (10, zo o (ui (zi) 30 (nI 1)) (zl))) := by rw [eM1]; exact ev_sg hR.z
    refine ev_blk (B := [(.aload_n 0, 1), (.iconst 0, 1)]) (pe := 15) (ls' := [some (.ref (o)), none]) (st' := [.int (nI 0), .ref (o)]) ⟨dX11_refreshes_13, dX11_refreshes_14, rfl⟩ rfl ?_
    refine ev_put F_RX11_249 dX11_refreshes_15 f2 (Nat.le_of_ble_eq_true rfl) (fun _ _ => ⟨rfl, rfl⟩) ?_
    rw [zs_31]
    refine ev_nm (M0 := M1.set (o) (.inr (10, zo o (ui (ui (zi) 30 (nI 1)) 31 (nI 0)) (zl)))) (fun M3 eM3 => ?_)
    have f4 : M3[o]? = some (.inr (10, zo o (ui (ui (zi) 30 (nI 1)) 31 (nI 0)) (zl))) := by rw [eM3]; exact ev_sg f2
    refine ev_blk (B := [(.aload_n 0, 1), (.iconst 0, 1)]) (pe := 20) (ls' := [some (.ref (o)), none]) (st' := [.int (nI 0), .ref (o)]) ⟨dX11_refreshes_18, dX11_refreshes_19, rfl⟩ rfl ?_
    refine ev_put F_RX11_231 dX11_refreshes_20 f4 (Nat.le_of_ble_eq_true rfl) (fun _ _ => ⟨rfl, rfl⟩) ?_
    rw [zs_28]
    refine ev_nm (M0 := M3.set (o) (.inr (10, zo o (ui (ui (ui (zi) 30 (nI 1)) 31 (nI 0)) 28 (nI 0)) (zl)))) (fun M5 eM5 => ?_)
    have f6 : M5[o]? = some (.inr (10, zo o (ui (ui (ui (zi) 30 (nI 1)) 31 (nI 0)) 28 (nI 0)) (zl))) := by rw [eM5]; exact ev_sg f4
    refine ev_blk (B := [(.iconst 0, 1), (.istore_n 1, 1)]) (pe := 25) (ls' := [some (.ref (o)), some (.int (nI 0))]) (st' := []) ⟨dX11_refreshes_23, dX11_refreshes_24, rfl⟩ rfl ?_
    have W7 : FX o (o + 31) (o + 31) M M5 := ⟨by rw [eM5, eM3, eM1]; simp only [List.length_set], fun j hj1 hj2 => by rw [eM5, ev_sn (by omega), eM3, ev_sn (by omega), eM1, ev_sn (by omega)]⟩
    obtain ⟨fT, hfT, hPT⟩ := hR.T
    obtain ⟨gf, gg, gh, g8, g9, g10, hQ⟩ := hR.G
    obtain ⟨hPM0, hPB0⟩ := hR.a.pm
    exact c_R_ref_g hl o S hS hT10 hG3 zi zl M hR fT hPT (fun x hx => (hS.G x hx).wf) gf gg gh hQ _ 0 _ _ (Nat.zero_le _) f6 rfl rfl rfl (fun j a b c d => (ui_ne a).trans ((ui_ne d).trans (ui_ne c))) (hPM0.fx W7 (by omega)) (hPB0.fx W7 (by omega)) (W7.em (by omega)) (W7.at hfT (by omega) (by omega)) (W7.at g8 (by omega) (by omega)) (W7.at g9 (by omega) (by omega)) (W7.at g10 (by omega) (by omega)) (Nat.lt_succ_self _)
  · refine ev_vret dX11_refreshes_7 rfl ⟨Nat.le_of_ble_eq_true rfl, Nat.le_of_ble_eq_true rfl⟩ ?_
    exact ⟨rfl, zi, hR, by rw [hf0, q4], fun _ _ _ _ _ => rfl, FX.rf⟩


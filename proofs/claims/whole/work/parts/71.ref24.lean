/-! ===== the reference: increases ===== -/
set_option maxHeartbeats 4000000 in
set_option maxRecDepth 100000 in
theorem c_R_inc_i {l : Launch} (hl : l.stackTraces = false) {M : ev_M} (o : Nat) (zi : Nat → Int32) (zl : Nat → Int64) (hO : M[o]? = some (.inr (10, zo o zi zl))) (f : Nat → Int32) (g h : Nat → Int64) (h2 : M[o + 2]? = some (.inl (0, 21, .inl f))) (h4 : M[o + 4]? = some (.inl (1, 21, .inr (.inl g)))) (h5 : M[o + 5]? = some (.inl (1, 21, .inr (.inl h)))) (L : List Cf) (n : Nat) (hn : L.length = n + 1) (hn20 : n ≤ 20) (hL : cfs 25 L) (z4 : zi 4 = nI n) (hP : QP 0 (n + 1) f g h L) (j : Nat) (hj1 : 1 ≤ j) (hjn : j ≤ n) (Q : ev_R → ev_M → Prop) (hf : ∀ i, i < j → cb (cg L i) (cg L j) = true → (∀ k, k < i → cb (cg L k) (cg L j) = false) → Q (.inl (some (.int (nI (100 * i + j))))) M) (hk9 : ∀ i, (∀ k, k < j → cb (cg L k) (cg L j) = false) → ev_ l m_X11_increase 0 0 125 [some (.ref (o)), some (.int (nI j)), some (.int (nI i))] [] M Q) : ∀ (n9 : Nat) (i : Nat), i ≤ j → (∀ k, k < i → cb (cg L k) (cg L j) = false) → j - i < n9 → ev_ l m_X11_increase 0 0 56 [some (.ref (o)), some (.int (nI j)), some (.int (nI i))] [] M (Q) := by
  intro n9
  induction n9 with
  | zero => intro i hi ha hm9; exact absurd hm9 (by omega)
  | succ n9 ih =>
    intro i hi ha hm9
    refine ev_blk (B := [(.iload_n 2, 1), (.iload_n 1, 1)]) (pe := 58) (ls' := [some (.ref (o)), some (.int (nI j)), some (.int (nI i))]) (st' := [.int (nI j), .int (nI i)]) ⟨dX11_increase_56, dX11_increase_57, rfl⟩ rfl ?_
    refine ev_iN_ge dX11_increase_58 (tgt := 125) (by decide) (by omega) (by omega) (fun q58 => ?_) (fun q58 => ?_)
    · exact hk9 i (fun k hk => ha k (by omega))
    · have hci := cfs_cg hL (show i < L.length by omega)
      have hcj := cfs_cg hL (show j < L.length by omega)
      have b1 := hci.1
      have b2 := hcj.1
      refine ev_blk (B := [(.aload_n 0, 1)]) (pe := 62) (ls' := [some (.ref (o)), some (.int (nI j)), some (.int (nI i))]) (st' := [.ref (o)]) ⟨dX11_increase_61, rfl⟩ rfl ?_
      refine ev_getf (v := .ref (o + 2)) F_RX11_13 dX11_increase_62 hO rfl ?_
      refine ev_blk (B := [(.iload_n 2, 1)]) (pe := 66) (ls' := [some (.ref (o)), some (.int (nI j)), some (.int (nI i))]) (st' := [.int (nI i), .ref (o + 2)]) ⟨dX11_increase_65, rfl⟩ rfl ?_
      refine ev_iald dX11_increase_66 h2 (vp_in_nI (show i < 21 by omega) (by omega)) ?_
      rw [nI_clamp (show i < 2 ^ 31 by omega)]
      rw [show f i = nI ((cg L i).1) from (hP.at (show i < n + 1 by omega)).1]
      refine ev_blk (B := [(.aload_n 0, 1)]) (pe := 68) (ls' := [some (.ref (o)), some (.int (nI j)), some (.int (nI i))]) (st' := [.ref (o), .int (nI ((cg L i).1))]) ⟨dX11_increase_67, rfl⟩ rfl ?_
      refine ev_getf (v := .ref (o + 2)) F_RX11_13 dX11_increase_68 hO rfl ?_
      refine ev_blk (B := [(.iload_n 1, 1)]) (pe := 72) (ls' := [some (.ref (o)), some (.int (nI j)), some (.int (nI i))]) (st' := [.int (nI j), .ref (o + 2), .int (nI ((cg L i).1))]) ⟨dX11_increase_71, rfl⟩ rfl ?_
      refine ev_iald dX11_increase_72 h2 (vp_in_nI (show j < 21 by omega) (by omega)) ?_
      rw [nI_clamp (show j < 2 ^ 31 by omega)]
      rw [show f j = nI ((cg L j).1) from (hP.at (show j < n + 1 by omega)).1]
      refine ev_iN_ne dX11_increase_73 (tgt := 119) (by decide) (by omega) (by omega) (fun q73 => ?_) (fun q73 => ?_)
      · refine ev_blk (B := [(.iinc 2 1, 3)]) (pe := 122) (ls' := [some (.ref (o)), some (.int (nI j)), some (.int (nI (i + 1)))]) (st' := []) ⟨dX11_increase_119, rfl⟩ (by show some (([some (.ref (o)), some (.int (nI j)), some (.int ((nI i) + Int32.ofInt (1)))] : ev_L), ([] : List Value)) = _; rw [ev_inc1 i]) ?_
        refine ev_goto (tgt := 56) dX11_increase_122 (by decide) ?_
        refine ih (i + 1) (by omega) (fun k hk => ?_) (by omega)
        by_cases e : k = i
        · subst e
          unfold cb
          first
            | (rw [q109, Bool.and_false, Bool.and_false]; done)
            | (rw [q91, Bool.false_and, Bool.and_false]; done)
            | (rw [beq_eq_false_iff_ne.mpr q73, Bool.false_and]; done)
        · exact ha k (by omega)
      · refine ev_blk (B := [(.aload_n 0, 1)]) (pe := 77) (ls' := [some (.ref (o)), some (.int (nI j)), some (.int (nI i))]) (st' := [.ref (o)]) ⟨dX11_increase_76, rfl⟩ rfl ?_
        refine ev_getf (v := .ref (o + 4)) F_RX11_19 dX11_increase_77 hO rfl ?_
        refine ev_blk (B := [(.iload_n 2, 1)]) (pe := 81) (ls' := [some (.ref (o)), some (.int (nI j)), some (.int (nI i))]) (st' := [.int (nI i), .ref (o + 4)]) ⟨dX11_increase_80, rfl⟩ rfl ?_
        refine ev_lald dX11_increase_81 h4 (vp_in_nI (show i < 21 by omega) (by omega)) ?_
        rw [nI_clamp (show i < 2 ^ 31 by omega)]
        rw [show g i = e2 (cg L i).2.1 from (hP.at (show i < n + 1 by omega)).2.1]
        refine ev_blk (B := [(.aload_n 0, 1)]) (pe := 83) (ls' := [some (.ref (o)), some (.int (nI j)), some (.int (nI i))]) (st' := [.ref (o), .long (e2 (cg L i).2.1)]) ⟨dX11_increase_82, rfl⟩ rfl ?_
        refine ev_getf (v := .ref (o + 4)) F_RX11_19 dX11_increase_83 hO rfl ?_
        refine ev_blk (B := [(.iload_n 1, 1)]) (pe := 87) (ls' := [some (.ref (o)), some (.int (nI j)), some (.int (nI i))]) (st' := [.int (nI j), .ref (o + 4), .long (e2 (cg L i).2.1)]) ⟨dX11_increase_86, rfl⟩ rfl ?_
        refine ev_lald dX11_increase_87 h4 (vp_in_nI (show j < 21 by omega) (by omega)) ?_
        rw [nI_clamp (show j < 2 ^ 31 by omega)]
        rw [show g j = e2 (cg L j).2.1 from (hP.at (show j < n + 1 by omega)).2.1]
        refine ev_cSv Y_X11_isWordBelow L_RX11_218 dX11_increase_88 ⟨Nat.le_of_ble_eq_true rfl, Nat.le_of_ble_eq_true rfl, Nat.le_of_ble_eq_true rfl, Nat.le_of_ble_eq_true rfl, Nat.le_of_ble_eq_true rfl⟩ (as := [.long (e2 (cg L i).2.1), .long (e2 (cg L j).2.1)]) rfl rfl (c_R_isWordBelow hl ((cg L i).2.1) ((cg L j).2.1) hci.2.1 hci.2.2.1 hcj.2.1 hcj.2.2.1) ?_
        refine ev_ifB_eq dX11_increase_91 (tgt := 119) (by decide) (fun q91 => ?_) (fun q91 => ?_)
        · refine ev_blk (B := [(.iinc 2 1, 3)]) (pe := 122) (ls' := [some (.ref (o)), some (.int (nI j)), some (.int (nI (i + 1)))]) (st' := []) ⟨dX11_increase_119, rfl⟩ (by show some (([some (.ref (o)), some (.int (nI j)), some (.int ((nI i) + Int32.ofInt (1)))] : ev_L), ([] : List Value)) = _; rw [ev_inc1 i]) ?_
          refine ev_goto (tgt := 56) dX11_increase_122 (by decide) ?_
          refine ih (i + 1) (by omega) (fun k hk => ?_) (by omega)
          by_cases e : k = i
          · subst e
            unfold cb
            first
              | (rw [q109, Bool.and_false, Bool.and_false]; done)
              | (rw [q91, Bool.false_and, Bool.and_false]; done)
              | (rw [beq_eq_false_iff_ne.mpr q73, Bool.false_and]; done)
          · exact ha k (by omega)
        · refine ev_blk (B := [(.aload_n 0, 1)]) (pe := 95) (ls' := [some (.ref (o)), some (.int (nI j)), some (.int (nI i))]) (st' := [.ref (o)]) ⟨dX11_increase_94, rfl⟩ rfl ?_
          refine ev_getf (v := .ref (o + 5)) F_RX11_23 dX11_increase_95 hO rfl ?_
          refine ev_blk (B := [(.iload_n 2, 1)]) (pe := 99) (ls' := [some (.ref (o)), some (.int (nI j)), some (.int (nI i))]) (st' := [.int (nI i), .ref (o + 5)]) ⟨dX11_increase_98, rfl⟩ rfl ?_
          refine ev_lald dX11_increase_99 h5 (vp_in_nI (show i < 21 by omega) (by omega)) ?_
          rw [nI_clamp (show i < 2 ^ 31 by omega)]
          rw [show h i = e2 (cg L i).2.2 from (hP.at (show i < n + 1 by omega)).2.2]
          refine ev_blk (B := [(.aload_n 0, 1)]) (pe := 101) (ls' := [some (.ref (o)), some (.int (nI j)), some (.int (nI i))]) (st' := [.ref (o), .long (e2 (cg L i).2.2)]) ⟨dX11_increase_100, rfl⟩ rfl ?_
          refine ev_getf (v := .ref (o + 5)) F_RX11_23 dX11_increase_101 hO rfl ?_
          refine ev_blk (B := [(.iload_n 1, 1)]) (pe := 105) (ls' := [some (.ref (o)), some (.int (nI j)), some (.int (nI i))]) (st' := [.int (nI j), .ref (o + 5), .long (e2 (cg L i).2.2)]) ⟨dX11_increase_104, rfl⟩ rfl ?_
          refine ev_lald dX11_increase_105 h5 (vp_in_nI (show j < 21 by omega) (by omega)) ?_
          rw [nI_clamp (show j < 2 ^ 31 by omega)]
          rw [show h j = e2 (cg L j).2.2 from (hP.at (show j < n + 1 by omega)).2.2]
          refine ev_cSv Y_X11_isWordBelow L_RX11_218 dX11_increase_106 ⟨Nat.le_of_ble_eq_true rfl, Nat.le_of_ble_eq_true rfl, Nat.le_of_ble_eq_true rfl, Nat.le_of_ble_eq_true rfl, Nat.le_of_ble_eq_true rfl⟩ (as := [.long (e2 (cg L i).2.2), .long (e2 (cg L j).2.2)]) rfl rfl (c_R_isWordBelow hl ((cg L i).2.2) ((cg L j).2.2) hci.2.2.2.1 hci.2.2.2.2 hcj.2.2.2.1 hcj.2.2.2.2) ?_
          refine ev_ifB_eq dX11_increase_109 (tgt := 119) (by decide) (fun q109 => ?_) (fun q109 => ?_)
          · refine ev_blk (B := [(.iinc 2 1, 3)]) (pe := 122) (ls' := [some (.ref (o)), some (.int (nI j)), some (.int (nI (i + 1)))]) (st' := []) ⟨dX11_increase_119, rfl⟩ (by show some (([some (.ref (o)), some (.int (nI j)), some (.int ((nI i) + Int32.ofInt (1)))] : ev_L), ([] : List Value)) = _; rw [ev_inc1 i]) ?_
            refine ev_goto (tgt := 56) dX11_increase_122 (by decide) ?_
            refine ih (i + 1) (by omega) (fun k hk => ?_) (by omega)
            by_cases e : k = i
            · subst e
              unfold cb
              first
                | (rw [q109, Bool.and_false, Bool.and_false]; done)
                | (rw [q91, Bool.false_and, Bool.and_false]; done)
                | (rw [beq_eq_false_iff_ne.mpr q73, Bool.false_and]; done)
            · exact ha k (by omega)
          · refine ev_blk (B := [(.bipush 100, 2), (.iload_n 2, 1), (.imul, 1), (.iload_n 1, 1), (.iadd, 1)]) (pe := 118) (ls' := [some (.ref (o)), some (.int (nI j)), some (.int (nI i))]) (st' := [.int (nI ((100 * i) + j))]) ⟨dX11_increase_112, dX11_increase_114, dX11_increase_115, dX11_increase_116, dX11_increase_117, rfl⟩ (by show some (([some (.ref (o)), some (.int (nI j)), some (.int (nI i))] : ev_L), ([.int (((nI 100) * (nI i)) + (nI j))] : List Value)) = _; rw [pk_mul 100 i, nI_add (100 * i) j]) ?_
            refine ev_iret dX11_increase_118 rfl (rfl) ⟨Nat.le_of_ble_eq_true rfl, Nat.le_of_ble_eq_true rfl⟩ ?_
            exact hf i (by omega) (by unfold cb; rw [q109, q91, beq_iff_eq.mpr q73]; rfl) ha

set_option maxHeartbeats 4000000 in
set_option maxRecDepth 100000 in
theorem c_R_inc_j {l : Launch} (hl : l.stackTraces = false) {M : ev_M} (o : Nat) (zi : Nat → Int32) (zl : Nat → Int64) (hO : M[o]? = some (.inr (10, zo o zi zl))) (f : Nat → Int32) (g h : Nat → Int64) (h2 : M[o + 2]? = some (.inl (0, 21, .inl f))) (h4 : M[o + 4]? = some (.inl (1, 21, .inr (.inl g)))) (h5 : M[o + 5]? = some (.inl (1, 21, .inr (.inl h)))) (L0 : List Cf) (x : Cf) (n : Nat) (hn : L0.length = n) (hn20 : n ≤ 20) (hL : cfs 25 (L0 ++ [x])) (z4 : zi 4 = nI n) (hP : QP 0 (n + 1) f g h (L0 ++ [x])) : ∀ (n9 : Nat) (j : Nat), 1 ≤ j → j ≤ n + 1 → (∀ k, 1 ≤ k → k < j → fb L0 (cg (L0 ++ [x]) k) k = none) → n + 1 - j < n9 → ev_ l m_X11_increase 0 0 46 [some (.ref (o)), some (.int (nI j)), none] [] M (ev_q (.inl (some (.int (fiI (fi L0 x))))) M) := by
  intro n9
  induction n9 with
  | zero => intro j hj1 hj ha hm9; exact absurd hm9 (by omega)
  | succ n9 ih =>
    intro j hj1 hj ha hm9
    refine ev_blk (B := [(.iload_n 1, 1), (.aload_n 0, 1)]) (pe := 48) (ls' := [some (.ref (o)), some (.int (nI j)), none]) (st' := [.ref (o), .int (nI j)]) ⟨dX11_increase_46, dX11_increase_47, rfl⟩ rfl ?_
    refine ev_getf (v := .int (nI n)) F_RX11_166 dX11_increase_48 hO (congrArg (fun q => some (Value.int q)) z4) ?_
    refine ev_iN_gt dX11_increase_51 (tgt := 131) (by decide) (by omega) (by omega) (fun q51 => ?_) (fun q51 => ?_)
    · refine ev_blk (B := [(.iconst (-1), 1)]) (pe := 132) (ls' := [some (.ref (o)), some (.int (nI j)), none]) (st' := [.int ((-1))]) ⟨dX11_increase_131, rfl⟩ rfl ?_
      refine ev_iret dX11_increase_132 rfl (rfl) ⟨Nat.le_of_ble_eq_true rfl, Nat.le_of_ble_eq_true rfl⟩ ?_
      have e9 : fi L0 x = none := fi_none (fun k h8 h9 => ha k h8 (by omega))
      rw [e9]
      exact ⟨rfl, rfl⟩
    · refine ev_blk (B := [(.iconst 0, 1), (.istore_n 2, 1)]) (pe := 56) (ls' := [some (.ref (o)), some (.int (nI j)), some (.int (nI 0))]) (st' := []) ⟨dX11_increase_54, dX11_increase_55, rfl⟩ rfl ?_
      refine c_R_inc_i hl o zi zl hO f g h h2 h4 h5 (L0 ++ [x]) n (by rw [List.length_append, hn]; rfl) hn20 hL z4 hP j hj1 (by omega) _ (fun i h1 h6 h7 => ?_) (fun i h6 => ?_) _ 0 (Nat.zero_le _) (fun k hk => absurd hk (Nat.not_lt_zero _)) (Nat.lt_succ_self _)
      · have e9 : fi L0 x = some (i, j) := fi_some hj1 (by omega) (fb_some h1 (by omega) (by rw [← cg_app_l (R := [x]) (show i < L0.length by omega)]; exact h6) (fun k hk => by rw [← cg_app_l (R := [x]) (show k < L0.length by omega)]; exact h7 k hk)) ha
        rw [e9]
        exact ⟨rfl, rfl⟩
      · refine ev_blk (B := [(.iinc 1 1, 3)]) (pe := 128) (ls' := [some (.ref (o)), some (.int (nI (j + 1))), some (.int (nI i))]) (st' := []) ⟨dX11_increase_125, rfl⟩ (by show some (([some (.ref (o)), some (.int (nI j + Int32.ofInt 1)), some (.int (nI i))] : ev_L), ([] : List Value)) = _; rw [ev_inc1]) ?_
        refine ev_goto (tgt := 46) dX11_increase_128 (by decide) ?_
        refine ev_fgt (ls' := [some (.ref (o)), some (.int (nI (j + 1))), none]) ⟨Or.inr rfl, Or.inr rfl, Or.inl rfl, trivial⟩ ?_
        refine ih (j + 1) (by omega) (by omega) (fun k h8 h9 => ?_) (by omega)
        by_cases e : k = j
        · subst e; exact fb_none (fun i h3 h10 => by rw [← cg_app_l (R := [x]) h10]; exact h6 i h3)
        · exact ha k h8 (by omega)

set_option maxHeartbeats 4000000 in
set_option maxRecDepth 100000 in
theorem r_increase {l : Launch} (hl : l.stackTraces = false) {M : ev_M} (o : Nat) (S : St) (hS : okS S) (hT10 : S.T.length ≤ 10) (hG3 : S.G.length ≤ 3) (hH20 : S.H.length ≤ 20) (zi : Nat → Int32) (zl : Nat → Int64) (hR : RR M o S zi zl) : ev_Mt l m_X11_increase [.ref (o)] M (fun r M1 => r = .inl (some (.int (sInc S).2)) ∧ ∃ zi' zl', RR M1 o S zi' zl' ∧ zi' 0 = nI (sInc S).1 ∧ Fr o (o + 31) M M1) := by
  refine ev_body hl rfl (by decide +kernel) (Nat.le_of_ble_eq_true rfl) ?_
  show ev_ l m_X11_increase 0 0 0 [some (.ref (o)), none, none] [] M _
  refine ev_blk (B := [(.aload_n 0, 1), (.iconst 0, 1)]) (pe := 2) (ls' := [some (.ref (o)), none, none]) (st' := [.int (nI 0), .ref (o)]) ⟨dX11_increase_0, dX11_increase_1, rfl⟩ rfl ?_
  refine ev_put F_RX11_106 dX11_increase_2 hR.z (Nat.le_of_ble_eq_true rfl) (fun _ _ => ⟨rfl, rfl⟩) ?_
  rw [zs_0]
  refine ev_nm (M0 := M.set (o) (.inr (10, zo o (ui (zi) 0 (nI 0)) (zl)))) (fun M1 eM1 => ?_)
  have f2 : M1[o]? = some (.inr (10, zo o (ui (zi) 0 (nI 0)) (zl))) := by rw [eM1]; exact ev_sg hR.z
  have W3 : FX o (o + 31) (o + 31) M M1 := ⟨by rw [eM1]; simp only [List.length_set], fun j hj1 hj2 => by rw [eM1, ev_sn (by omega)]⟩
  obtain ⟨uf, uk, ug, uh, huf, huk, hug, huh, hQ9, hK9⟩ := (hR.H.fx W3 (by omega))
  refine ev_blk (B := [(.aload_n 0, 1)]) (pe := 6) (ls' := [some (.ref (o)), none, none]) (st' := [.ref (o)]) ⟨dX11_increase_5, rfl⟩ rfl ?_
  refine ev_getf (v := .ref (o + 2)) F_RX11_13 dX11_increase_6 f2 rfl ?_
  refine ev_blk (B := [(.aload_n 0, 1)]) (pe := 10) (ls' := [some (.ref (o)), none, none]) (st' := [.ref (o), .ref (o + 2)]) ⟨dX11_increase_9, rfl⟩ rfl ?_
  refine ev_getf (v := .int (nI (S.H.length))) F_RX11_166 dX11_increase_10 f2 (congrArg (fun q => some (Value.int q)) hR.p.2.2.1) ?_
  refine ev_blk (B := [(.aload_n 0, 1)]) (pe := 14) (ls' := [some (.ref (o)), none, none]) (st' := [.ref (o), .int (nI (S.H.length)), .ref (o + 2)]) ⟨dX11_increase_13, rfl⟩ rfl ?_
  refine ev_getf (v := .int (nI (S.x.1))) F_RX11_169 dX11_increase_14 f2 (congrArg (fun q => some (Value.int q)) hR.p.2.1) ?_
  refine ev_iast dX11_increase_17 huf (vp_in_nI (show S.H.length < 21 by omega) (by omega)) ?_
  rw [nI_clamp (show S.H.length < 2 ^ 31 by omega)]
  refine ev_nm (M0 := M1.set (o + 2) (.inl (0, 21, .inl (upd uf S.H.length (nI (S.x.1)))))) (fun M4 eM4 => ?_)
  have f5 : M4[o]? = some (.inr (10, zo o (ui (zi) 0 (nI 0)) (zl))) := by rw [eM4, ev_sn (by omega)]; exact f2
  have f6 : M4[o + 2]? = some (.inl (0, 21, .inl (upd uf S.H.length (nI (S.x.1))))) := by rw [eM4]; exact ev_sg huf
  have f7 : M4[o + 3]? = some (.inl (0, 21, .inl (uk))) := by rw [eM4, ev_sn (by omega)]; exact huk
  have f8 : M4[o + 4]? = some (.inl (1, 21, .inr (.inl (ug)))) := by rw [eM4, ev_sn (by omega)]; exact hug
  have f9 : M4[o + 5]? = some (.inl (1, 21, .inr (.inl (uh)))) := by rw [eM4, ev_sn (by omega)]; exact huh
  refine ev_blk (B := [(.aload_n 0, 1)]) (pe := 19) (ls' := [some (.ref (o)), none, none]) (st' := [.ref (o)]) ⟨dX11_increase_18, rfl⟩ rfl ?_
  refine ev_getf (v := .ref (o + 4)) F_RX11_19 dX11_increase_19 f5 rfl ?_
  refine ev_blk (B := [(.aload_n 0, 1)]) (pe := 23) (ls' := [some (.ref (o)), none, none]) (st' := [.ref (o), .ref (o + 4)]) ⟨dX11_increase_22, rfl⟩ rfl ?_
  refine ev_getf (v := .int (nI (S.H.length))) F_RX11_166 dX11_increase_23 f5 (congrArg (fun q => some (Value.int q)) hR.p.2.2.1) ?_
  refine ev_blk (B := [(.aload_n 0, 1)]) (pe := 27) (ls' := [some (.ref (o)), none, none]) (st' := [.ref (o), .int (nI (S.H.length)), .ref (o + 4)]) ⟨dX11_increase_26, rfl⟩ rfl ?_
  refine ev_getf (v := .long (e2 S.x.2.1)) F_RX11_159 dX11_increase_27 f5 (congrArg (fun q => some (Value.long q)) hR.p.2.2.2.1) ?_
  refine ev_last dX11_increase_30 f8 (vp_in_nI (show S.H.length < 21 by omega) (by omega)) ?_
  rw [nI_clamp (show S.H.length < 2 ^ 31 by omega)]
  refine ev_nm (M0 := M4.set (o + 4) (.inl (1, 21, .inr (.inl (vp_updL ug S.H.length (e2 S.x.2.1)))))) (fun M10 eM10 => ?_)
  have f11 : M10[o]? = some (.inr (10, zo o (ui (zi) 0 (nI 0)) (zl))) := by rw [eM10, ev_sn (by omega)]; exact f5
  have f12 : M10[o + 2]? = some (.inl (0, 21, .inl (upd uf S.H.length (nI (S.x.1))))) := by rw [eM10, ev_sn (by omega)]; exact f6
  have f13 : M10[o + 3]? = some (.inl (0, 21, .inl (uk))) := by rw [eM10, ev_sn (by omega)]; exact f7
  have f14 : M10[o + 4]? = some (.inl (1, 21, .inr (.inl (vp_updL ug S.H.length (e2 S.x.2.1))))) := by rw [eM10]; exact ev_sg f8
  have f15 : M10[o + 5]? = some (.inl (1, 21, .inr (.inl (uh)))) := by rw [eM10, ev_sn (by omega)]; exact f9
  refine ev_blk (B := [(.aload_n 0, 1)]) (pe := 32) (ls' := [some (.ref (o)), none, none]) (st' := [.ref (o)]) ⟨dX11_increase_31, rfl⟩ rfl ?_
  refine ev_getf (v := .ref (o + 5)) F_RX11_23 dX11_increase_32 f11 rfl ?_
  refine ev_blk (B := [(.aload_n 0, 1)]) (pe := 36) (ls' := [some (.ref (o)), none, none]) (st' := [.ref (o), .ref (o + 5)]) ⟨dX11_increase_35, rfl⟩ rfl ?_
  refine ev_getf (v := .int (nI (S.H.length))) F_RX11_166 dX11_increase_36 f11 (congrArg (fun q => some (Value.int q)) hR.p.2.2.1) ?_
  refine ev_blk (B := [(.aload_n 0, 1)]) (pe := 40) (ls' := [some (.ref (o)), none, none]) (st' := [.ref (o), .int (nI (S.H.length)), .ref (o + 5)]) ⟨dX11_increase_39, rfl⟩ rfl ?_
  refine ev_getf (v := .long (e2 S.x.2.2)) F_RX11_163 dX11_increase_40 f11 (congrArg (fun q => some (Value.long q)) hR.p.2.2.2.2.1) ?_
  refine ev_last dX11_increase_43 f15 (vp_in_nI (show S.H.length < 21 by omega) (by omega)) ?_
  rw [nI_clamp (show S.H.length < 2 ^ 31 by omega)]
  refine ev_nm (M0 := M10.set (o + 5) (.inl (1, 21, .inr (.inl (vp_updL uh S.H.length (e2 S.x.2.2)))))) (fun M16 eM16 => ?_)
  have f17 : M16[o]? = some (.inr (10, zo o (ui (zi) 0 (nI 0)) (zl))) := by rw [eM16, ev_sn (by omega)]; exact f11
  have f18 : M16[o + 2]? = some (.inl (0, 21, .inl (upd uf S.H.length (nI (S.x.1))))) := by rw [eM16, ev_sn (by omega)]; exact f12
  have f19 : M16[o + 3]? = some (.inl (0, 21, .inl (uk))) := by rw [eM16, ev_sn (by omega)]; exact f13
  have f20 : M16[o + 4]? = some (.inl (1, 21, .inr (.inl (vp_updL ug S.H.length (e2 S.x.2.1))))) := by rw [eM16, ev_sn (by omega)]; exact f14
  have f21 : M16[o + 5]? = some (.inl (1, 21, .inr (.inl (vp_updL uh S.H.length (e2 S.x.2.2))))) := by rw [eM16]; exact ev_sg f15
  refine ev_blk (B := [(.iconst 1, 1), (.istore_n 1, 1)]) (pe := 46) (ls' := [some (.ref (o)), some (.int (nI 1)), none]) (st' := []) ⟨dX11_increase_44, dX11_increase_45, rfl⟩ rfl ?_
  have W9 : FX o (o + 2) (o + 6) M1 M16 := ⟨by rw [eM16, eM10, eM4]; simp only [List.length_set], fun j hj1 hj2 => by rw [eM16, ev_sn (by omega), eM10, ev_sn (by omega), eM4, ev_sn (by omega)]⟩
  have hQn := QP.push (x := S.x) hL_len.symm hQ9
  refine ev_mono (fun r M9 hq => ?_) (c_R_inc_j hl o (ui (zi) 0 (nI 0)) (zl) f17 _ _ _ f18 f20 f21 (hL S.H) S.x S.H.length hL_len hH20 (cfs_app.mpr ⟨hS.H.le (by omega), fun c hc => by rw [List.mem_singleton.mp hc]; exact hS.x.le (by omega)⟩) hR.p.2.2.1 hQn _ 1 (Nat.le_refl _) (by omega) (fun k h8 h9 => absurd h8 (by omega)) (Nat.lt_succ_self _))
  obtain ⟨q1, q2⟩ := hq
  rw [q2]
  exact ⟨q1, _, _, hR.xh (x := S.x) (H := S.H) f17 ((W3.em (by omega)).tr W9) ⟨_, _, _, _, f18, f19, f20, f21, fun i hi => by
    have e9 := hQn i (by omega)
    rwa [cg_app_l (by rw [hL_len]; exact hi)] at e9, hK9⟩ hR.p.2.1 hR.p.2.2.1 hR.p.2.2.2.1 hR.p.2.2.2.2.1 (fun q hq => ui_ne (nm hq (by decide))) (fun q hq => rfl), rfl, FX.fr ((W3.em (by omega)).tr (W9.to (by omega) (by omega))) (lo := o + 1) (hi := o + 31) (by omega) (by omega)⟩


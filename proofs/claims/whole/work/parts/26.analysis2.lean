set_option maxHeartbeats 4000000 in
set_option maxRecDepth 100000 in
theorem c_X0_collectGoals_l {l : Launch} (hl : l.stackTraces = false)  (o : Nat) (cu co : Bool) (la tr lo : Nat) (g gcap : Nat) (G : List Cf) (hgo : g + 4 ≤ o ∨ o + 60 ≤ g) (hG25 : cfs 25 G) (hG4 : G.length < 330) (M0 : ev_M) (hOz : RAo M0 o cu co la tr lo) (hgz : RQ M0 g gcap G) : ∀ (n9 : Nat) (i : Nat) (M : ev_M), i ≤ G.length → Fr (o + 54) (o + 59) M0 M → RQ M (o + 54) 330 (gsn G i) → RWk M (o + 58) → G.length - i < n9 → ev_ l m_X0_collectGoals 0 0 9 [some (.ref (o)), some (.ref (g)), some (.int (nI i))] [] M (fun r M1 => r = .inl none ∧ RQ M1 (o + 54) 330 (gs G) ∧ RWk M1 (o + 58) ∧ Fr (o + 54) (o + 59) M0 M1) := by
  intro n9
  induction n9 with
  | zero => intro i M hi hFr hN hWk hm9; exact absurd hm9 (by omega)
  | succ n9 ih =>
    intro i M hi hFr hN hWk hm9
    have hO := hOz.fr hFr (by omega)
    have hg := hgz.fr hFr (by omega)
    obtain ⟨y, hW⟩ := hWk
    have hO9 := hO
    obtain ⟨hO0, fr, hO1, hO2⟩ := hO9
    refine ev_blk (B := [(.iload_n 2, 1), (.aload_n 1, 1)]) (pe := 11) (ls' := [some (.ref (o)), some (.ref (g)), some (.int (nI i))]) (st' := [.ref (g), .int (nI i)]) ⟨dX0_collectGoals_9, dX0_collectGoals_10, rfl⟩ rfl ?_
    refine ev_cVv Y_X2_size L_RX0_55 dX0_collectGoals_11 ⟨Nat.le_of_ble_eq_true rfl, Nat.le_of_ble_eq_true rfl, Nat.le_of_ble_eq_true rfl, Nat.le_of_ble_eq_true rfl, Nat.le_of_ble_eq_true rfl⟩ hg.obj (as := []) rfl rfl (c_X2_size hl _ _ _ hg) ?_
    refine ev_iN_ge dX0_collectGoals_14 (tgt := 44) (by decide) (by omega) (by omega) (fun q14 => ?_) (fun q14 => ?_)
    · refine ev_vret dX0_collectGoals_44 rfl ⟨Nat.le_of_ble_eq_true rfl, Nat.le_of_ble_eq_true rfl⟩ ?_
      have e7 : i = G.length := by omega
      exact ⟨rfl, by rw [e7] at hN; exact hN, hW.wk, hFr⟩
    · refine ev_blk (B := [(.aload_n 1, 1), (.iload_n 2, 1), (.aload_n 0, 1)]) (pe := 20) (ls' := [some (.ref (o)), some (.ref (g)), some (.int (nI i))]) (st' := [.ref (o), .int (nI i), .ref (g)]) ⟨dX0_collectGoals_17, dX0_collectGoals_18, dX0_collectGoals_19, rfl⟩ rfl ?_
      refine ev_getf (v := .ref (o + 58)) F_RX0_27 dX0_collectGoals_20 hO0 rfl ?_
      refine ev_cVn Y_X2_load L_RX0_101 dX0_collectGoals_23 ⟨Nat.le_of_ble_eq_true rfl, Nat.le_of_ble_eq_true rfl, Nat.le_of_ble_eq_true rfl, Nat.le_of_ble_eq_true rfl, Nat.le_of_ble_eq_true rfl⟩ hg.obj (as := [.int (nI i), .ref (o + 58)]) rfl rfl (c_X2_load hl _ _ _ hg (i) (by omega) _ _ hW (by omega) (by omega)) (fun M1 hL1 hB1 => ?_)
      obtain ⟨hB1, hB2⟩ := hB1
      have hO3 := hO.fr hB2 (by omega)
      have hO4 := hO3
      obtain ⟨hO5, fr1, hO6, hO7⟩ := hO4
      have hN3 := hN.fr hB2 (by omega)
      refine ev_blk (B := [(.aload_n 0, 1)]) (pe := 27) (ls' := [some (.ref (o)), some (.ref (g)), some (.int (nI i))]) (st' := [.ref (o)]) ⟨dX0_collectGoals_26, rfl⟩ rfl ?_
      refine ev_getf (v := .ref (o + 54)) F_RX0_20 dX0_collectGoals_27 hO5 rfl ?_
      refine ev_blk (B := [(.aload_n 0, 1)]) (pe := 31) (ls' := [some (.ref (o)), some (.ref (g)), some (.int (nI i))]) (st' := [.ref (o), .ref (o + 54)]) ⟨dX0_collectGoals_30, rfl⟩ rfl ?_
      refine ev_getf (v := .ref (o + 58)) F_RX0_27 dX0_collectGoals_31 hO5 rfl ?_
      refine ev_cVw Y_X2_insertMinimal L_RX0_105 dX0_collectGoals_34 ⟨Nat.le_of_ble_eq_true rfl, Nat.le_of_ble_eq_true rfl, Nat.le_of_ble_eq_true rfl, Nat.le_of_ble_eq_true rfl, Nat.le_of_ble_eq_true rfl⟩ hN3.obj (as := [.ref (o + 58)]) rfl rfl (c_X2_insertMinimal hl _ _ _ hN3 (by have := gsn_len (G := G) i; omega) (gsn_ok hG25 i (by omega)) _ _ hB1 (cfs_cg hG25 (by omega)) (by omega)) (fun M2 hL2 hB2 => ?_)
      obtain ⟨hC1, hC2⟩ := hB2
      have hF2 := (hB2.to (show o + 54 ≤ o + 58 by omega) (Nat.le_refl (o + 58 + 1))).tr (hC2.to (Nat.le_refl _) (show o + 54 + 4 ≤ o + 58 + 1 by omega))
      refine ev_blk (B := [(.pop, 1), (.iinc 2 1, 3)]) (pe := 41) (ls' := [some (.ref (o)), some (.ref (g)), some (.int (nI (i + 1)))]) (st' := []) ⟨dX0_collectGoals_37, dX0_collectGoals_38, rfl⟩ (by show some (([some (.ref (o)), some (.ref (g)), some (.int ((nI i) + Int32.ofInt (1)))] : ev_L), ([] : List Value)) = _; rw [ev_inc1 i]) ?_
      refine ev_goto (tgt := 9) dX0_collectGoals_41 (by decide) ?_
      exact ih (i + 1) _ (by omega) (hFr.tr hF2) hC1 (hB1.fr hC2 (by omega)).wk (by omega)

set_option maxHeartbeats 4000000 in
set_option maxRecDepth 100000 in
theorem c_X0_collectGoals {l : Launch} (hl : l.stackTraces = false) {M : ev_M} (o : Nat) (cu co : Bool) (la tr lo : Nat) (hO : RAo M o cu co la tr lo) (g gcap : Nat) (G : List Cf) (hgo : g + 4 ≤ o ∨ o + 60 ≤ g) (hG25 : cfs 25 G) (hG4 : G.length < 330) (hg : RQ M g gcap G) (N : List Cf) (hN : RQ M (o + 54) 330 N) (hW : RWk M (o + 58)) : ev_Mt l m_X0_collectGoals [.ref (o), .ref (g)] M (fun r M1 => r = .inl none ∧ RQ M1 (o + 54) 330 (gs G) ∧ RWk M1 (o + 58) ∧ Fr (o + 54) (o + 59) M M1) := by
  have hO9 := hO
  obtain ⟨hO0, fr, hO1, hO2⟩ := hO9
  refine ev_body hl rfl (by decide +kernel) (Nat.le_of_ble_eq_true rfl) ?_
  show ev_ l m_X0_collectGoals 0 0 0 [some (.ref (o)), some (.ref (g)), none] [] M _
  refine ev_blk (B := [(.aload_n 0, 1)]) (pe := 1) (ls' := [some (.ref (o)), some (.ref (g)), none]) (st' := [.ref (o)]) ⟨dX0_collectGoals_0, rfl⟩ rfl ?_
  refine ev_getf (v := .ref (o + 54)) F_RX0_20 dX0_collectGoals_1 hO0 rfl ?_
  refine ev_cVn Y_X2_removeAll L_RX0_98 dX0_collectGoals_4 ⟨Nat.le_of_ble_eq_true rfl, Nat.le_of_ble_eq_true rfl, Nat.le_of_ble_eq_true rfl, Nat.le_of_ble_eq_true rfl, Nat.le_of_ble_eq_true rfl⟩ hN.obj (as := []) rfl rfl (c_X2_removeAll hl _ _ _ hN) (fun M1 hL1 hB1 => ?_)
  obtain ⟨hB1, hB2⟩ := hB1
  refine ev_blk (B := [(.iconst 0, 1), (.istore_n 2, 1)]) (pe := 9) (ls' := [some (.ref (o)), some (.ref (g)), some (.int (nI 0))]) (st' := []) ⟨dX0_collectGoals_7, dX0_collectGoals_8, rfl⟩ rfl ?_
  exact c_X0_collectGoals_l hl o cu co la tr lo g gcap G hgo hG25 hG4 _ hO hg _ 0 _ (Nat.zero_le _) (hB2.to (Nat.le_refl _) (by omega)) hB1 (hW.fr hB2 (by omega)) (Nat.lt_succ_self _)

set_option maxHeartbeats 4000000 in
set_option maxRecDepth 100000 in
theorem c_X0_addP_i {l : Launch} (hl : l.stackTraces = false)  (o : Nat) (cu co : Bool) (la tr lo : Nat) (m : Nat) (T : List Tr) (hmo : m + 2 ≤ o ∨ o + 60 ≤ m) (hT : trs T) (k : Nat) (hk : k < 13) (L9 : List Cf) (hL9 : cfs 23 L9) (M0 : ev_M) (hOz : RAo M0 o cu co la tr lo) (hmz : RM M0 m T) (hbz : RQ M0 (o + 2 + 4 * k) 30 L9) (i : Nat) (hi : i < L9.length) (p : Bool × List Cf) (hp24 : cfs 24 p.2) (hp : p.2.length + T.length ≤ 330) (Q : ev_R → ev_M → Prop) (hk9 : ∀ (M : ev_M) (t : Nat), Fr (o + 54) (o + 59) M0 M → RQ M (o + 54) 330 (ist T (cg L9 i) T.length p).2 → RWk M (o + 58) → ev_ l m_X0_addPredecessors 0 0 114 [some (.ref (o)), some (.ref (m)), some (.int (nI k)), some (.ref (o + 2 + 4 * k)), some (.int (ev_b ((ist T (cg L9 i) T.length p).1))), some (.int (nI i)), some (.int (nI t))] [] M Q) : ∀ (n9 : Nat) (t : Nat) (M : ev_M), t ≤ T.length → Fr (o + 54) (o + 59) M0 M → RQ M (o + 54) 330 (ist T (cg L9 i) t p).2 → RWk M (o + 58) → T.length - t < n9 → ev_ l m_X0_addPredecessors 0 0 38 [some (.ref (o)), some (.ref (m)), some (.int (nI k)), some (.ref (o + 2 + 4 * k)), some (.int (ev_b ((ist T (cg L9 i) t p).1))), some (.int (nI i)), some (.int (nI t))] [] M (Q) := by
  intro n9
  induction n9 with
  | zero => intro t M ht hFr hN hWk hm9; exact absurd hm9 (by omega)
  | succ n9 ih =>
    intro t M ht hFr hN hWk hm9
    have hO := hOz.fr hFr (by omega)
    have hm := hmz.fr hFr (by omega)
    have hb := hbz.fr hFr (by omega)
    obtain ⟨y, hW⟩ := hWk
    have hten := hm.1
    have h30 := hb.2.1
    have hO9 := hO
    obtain ⟨hO0, fr, hO1, hO2⟩ := hO9
    refine ev_blk (B := [(.iload 6, 2), (.aload_n 1, 1)]) (pe := 41) (ls' := [some (.ref (o)), some (.ref (m)), some (.int (nI k)), some (.ref (o + 2 + 4 * k)), some (.int (ev_b ((ist T (cg L9 i) t p).1))), some (.int (nI i)), some (.int (nI t))]) (st' := [.ref (m), .int (nI t)]) ⟨dX0_addPredecessors_38, dX0_addPredecessors_40, rfl⟩ rfl ?_
    refine ev_cVv Y_X4_count L_RX0_113 dX0_addPredecessors_41 ⟨Nat.le_of_ble_eq_true rfl, Nat.le_of_ble_eq_true rfl, Nat.le_of_ble_eq_true rfl, Nat.le_of_ble_eq_true rfl, Nat.le_of_ble_eq_true rfl⟩ hm.obj (as := []) rfl rfl (c_X4_count hl _ _ hm) ?_
    refine ev_iN_ge dX0_addPredecessors_44 (tgt := 114) (by decide) (by omega) (by omega) (fun q44 => ?_) (fun q44 => ?_)
    · have e7 : t = T.length := by omega
      rw [e7] at hN ⊢
      exact hk9 M _ hFr hN hW.wk
    · refine ev_blk (B := [(.aload_n 1, 1), (.iload 6, 2), (.aload_n 3, 1), (.iload 5, 2)]) (pe := 53) (ls' := [some (.ref (o)), some (.ref (m)), some (.int (nI k)), some (.ref (o + 2 + 4 * k)), some (.int (ev_b ((ist T (cg L9 i) t p).1))), some (.int (nI i)), some (.int (nI t))]) (st' := [.int (nI i), .ref (o + 2 + 4 * k), .int (nI t), .ref (m)]) ⟨dX0_addPredecessors_47, dX0_addPredecessors_48, dX0_addPredecessors_50, dX0_addPredecessors_51, rfl⟩ rfl ?_
      refine ev_cVv Y_X2_stateAt L_RX0_79 dX0_addPredecessors_53 ⟨Nat.le_of_ble_eq_true rfl, Nat.le_of_ble_eq_true rfl, Nat.le_of_ble_eq_true rfl, Nat.le_of_ble_eq_true rfl, Nat.le_of_ble_eq_true rfl⟩ hb.obj (as := [.int (nI i)]) rfl rfl (c_X2_stateAt hl _ _ _ hb (i) (by omega)) ?_
      refine ev_cVv Y_X4_leadsTo L_RX0_118 dX0_addPredecessors_56 ⟨Nat.le_of_ble_eq_true rfl, Nat.le_of_ble_eq_true rfl, Nat.le_of_ble_eq_true rfl, Nat.le_of_ble_eq_true rfl, Nat.le_of_ble_eq_true rfl⟩ hm.obj (as := [.int (nI t), .int (nI ((cg L9 i).1))]) rfl rfl (c_X4_leadsTo hl _ _ hm hT (t) (by omega) _ (cfs_cg hL9 hi).1) ?_
      refine ev_ifB_eq dX0_addPredecessors_59 (tgt := 108) (by decide) (fun q59 => ?_) (fun q59 => ?_)
      · refine ev_blk (B := [(.iinc 6 1, 3)]) (pe := 111) (ls' := [some (.ref (o)), some (.ref (m)), some (.int (nI k)), some (.ref (o + 2 + 4 * k)), some (.int (ev_b ((ist T (cg L9 i) t p).1))), some (.int (nI i)), some (.int (nI (t + 1)))]) (st' := []) ⟨dX0_addPredecessors_108, rfl⟩ (by show some (([some (.ref (o)), some (.ref (m)), some (.int (nI k)), some (.ref (o + 2 + 4 * k)), some (.int (ev_b ((ist T (cg L9 i) t p).1))), some (.int (nI i)), some (.int ((nI t) + Int32.ofInt (1)))] : ev_L), ([] : List Value)) = _; rw [ev_inc1 t]) ?_
        refine ev_goto (tgt := 38) dX0_addPredecessors_111 (by decide) ?_
        have e9 : ist T (cg L9 i) (t + 1) p = (ist T (cg L9 i) t p) := if_neg (Bool.eq_false_iff.mp q59)
        have e8 := ih (t + 1) M (by omega) hFr (by rw [e9]; exact hN) hW.wk (by omega)
        rw [e9] at e8
        exact e8
      · refine ev_blk (B := [(.aload_n 3, 1), (.iload 5, 2), (.aload_n 0, 1)]) (pe := 66) (ls' := [some (.ref (o)), some (.ref (m)), some (.int (nI k)), some (.ref (o + 2 + 4 * k)), some (.int (ev_b ((ist T (cg L9 i) t p).1))), some (.int (nI i)), some (.int (nI t))]) (st' := [.ref (o), .int (nI i), .ref (o + 2 + 4 * k)]) ⟨dX0_addPredecessors_62, dX0_addPredecessors_63, dX0_addPredecessors_65, rfl⟩ rfl ?_
        refine ev_getf (v := .ref (o + 58)) F_RX0_27 dX0_addPredecessors_66 hO0 rfl ?_
        refine ev_cVn Y_X2_load L_RX0_101 dX0_addPredecessors_69 ⟨Nat.le_of_ble_eq_true rfl, Nat.le_of_ble_eq_true rfl, Nat.le_of_ble_eq_true rfl, Nat.le_of_ble_eq_true rfl, Nat.le_of_ble_eq_true rfl⟩ hb.obj (as := [.int (nI i), .ref (o + 58)]) rfl rfl (c_X2_load hl _ _ _ hb (i) (by omega) _ _ hW (by omega) (by omega)) (fun M1 hL1 hB1 => ?_)
        obtain ⟨hB1, hB2⟩ := hB1
        have hO3 := hO.fr hB2 (by omega)
        have hO4 := hO3
        obtain ⟨hO5, fr1, hO6, hO7⟩ := hO4
        have hm3 := hm.fr hB2 (by omega)
        have hN3 := hN.fr hB2 (by omega)
        refine ev_blk (B := [(.aload_n 1, 1), (.iload 6, 2), (.aload_n 0, 1)]) (pe := 76) (ls' := [some (.ref (o)), some (.ref (m)), some (.int (nI k)), some (.ref (o + 2 + 4 * k)), some (.int (ev_b ((ist T (cg L9 i) t p).1))), some (.int (nI i)), some (.int (nI t))]) (st' := [.ref (o), .int (nI t), .ref (m)]) ⟨dX0_addPredecessors_72, dX0_addPredecessors_73, dX0_addPredecessors_75, rfl⟩ rfl ?_
        refine ev_getf (v := .ref (o + 58)) F_RX0_27 dX0_addPredecessors_76 hO5 rfl ?_
        refine ev_cVn Y_X4_applyBackwards L_RX0_122 dX0_addPredecessors_79 ⟨Nat.le_of_ble_eq_true rfl, Nat.le_of_ble_eq_true rfl, Nat.le_of_ble_eq_true rfl, Nat.le_of_ble_eq_true rfl, Nat.le_of_ble_eq_true rfl⟩ hm3.obj (as := [.int (nI t), .ref (o + 58)]) rfl rfl (c_X4_applyBackwards hl _ _ hm3 hT (t) (by omega) _ _ hB1 ((cfs_cg hL9 hi).le (by omega)) (by omega)) (fun M2 hL2 hB2 => ?_)
        obtain ⟨hC1, hC2⟩ := hB2
        have hP3 := hO3.fr hC2 (by omega)
        have hP4 := hP3
        obtain ⟨hP5, fr2, hP6, hP7⟩ := hP4
        have hN4 := hN3.fr hC2 (by omega)
        refine ev_blk (B := [(.aload_n 0, 1)]) (pe := 83) (ls' := [some (.ref (o)), some (.ref (m)), some (.int (nI k)), some (.ref (o + 2 + 4 * k)), some (.int (ev_b ((ist T (cg L9 i) t p).1))), some (.int (nI i)), some (.int (nI t))]) (st' := [.ref (o)]) ⟨dX0_addPredecessors_82, rfl⟩ rfl ?_
        refine ev_getf (v := .ref (o + 54)) F_RX0_20 dX0_addPredecessors_83 hP5 rfl ?_
        refine ev_blk (B := [(.aload_n 0, 1)]) (pe := 87) (ls' := [some (.ref (o)), some (.ref (m)), some (.int (nI k)), some (.ref (o + 2 + 4 * k)), some (.int (ev_b ((ist T (cg L9 i) t p).1))), some (.int (nI i)), some (.int (nI t))]) (st' := [.ref (o), .ref (o + 54)]) ⟨dX0_addPredecessors_86, rfl⟩ rfl ?_
        refine ev_getf (v := .ref (o + 58)) F_RX0_27 dX0_addPredecessors_87 hP5 rfl ?_
        refine ev_cVw Y_X2_insertMinimal L_RX0_105 dX0_addPredecessors_90 ⟨Nat.le_of_ble_eq_true rfl, Nat.le_of_ble_eq_true rfl, Nat.le_of_ble_eq_true rfl, Nat.le_of_ble_eq_true rfl, Nat.le_of_ble_eq_true rfl⟩ hN4.obj (as := [.ref (o + 58)]) rfl rfl (c_X2_insertMinimal hl _ _ _ hN4 (by have := ist_len (T := T) (x := cg L9 i) (p := p) t; omega) ((ist_ok hT (cfs_cg hL9 hi) hp24 t (by omega)).le (by omega)) _ _ hC1 ((bp_ok (cfs_cg hL9 hi) (trs_tg hT (by omega))).le (by omega)) (by omega)) (fun M3 hL3 hB3 => ?_)
        obtain ⟨hD1, hD2⟩ := hB3
        have hF2 := ((hB2.tr hC2).to (show o + 54 ≤ o + 58 by omega) (Nat.le_refl (o + 58 + 1))).tr (hD2.to (Nat.le_refl _) (show o + 54 + 4 ≤ o + 58 + 1 by omega))
        refine ev_ifB_ne dX0_addPredecessors_93 (tgt := 101) (by decide) (fun q93 => ?_) (fun q93 => ?_)
        · refine ev_blk (B := [(.iconst 1, 1)]) (pe := 102) (ls' := [some (.ref (o)), some (.ref (m)), some (.int (nI k)), some (.ref (o + 2 + 4 * k)), some (.int (ev_b ((ist T (cg L9 i) t p).1))), some (.int (nI i)), some (.int (nI t))]) (st' := [.int (nI 1)]) ⟨dX0_addPredecessors_101, rfl⟩ rfl ?_
          refine ev_goto (tgt := 106) dX0_addPredecessors_102 (by decide) ?_
          refine ev_eqst (st := [.int (ev_b ((ist T (cg L9 i) t p).1 || (im (ist T (cg L9 i) t p).2 (bp (tg T t) (cg L9 i))).1))]) (congrArg (fun z => ([.int (ev_b z)] : List Value)) (show true = ((ist T (cg L9 i) t p).1 || (im (ist T (cg L9 i) t p).2 (bp (tg T t) (cg L9 i))).1) by rw [q93, Bool.or_true])) ?_
          refine ev_blk (B := [(.istore 4, 2), (.iinc 6 1, 3)]) (pe := 111) (ls' := [some (.ref (o)), some (.ref (m)), some (.int (nI k)), some (.ref (o + 2 + 4 * k)), some (.int (ev_b ((ist T (cg L9 i) t p).1 || (im (ist T (cg L9 i) t p).2 (bp (tg T t) (cg L9 i))).1))), some (.int (nI i)), some (.int (nI (t + 1)))]) (st' := []) ⟨dX0_addPredecessors_106, dX0_addPredecessors_108, rfl⟩ (by show some (([some (.ref (o)), some (.ref (m)), some (.int (nI k)), some (.ref (o + 2 + 4 * k)), some (.int (ev_b ((ist T (cg L9 i) t p).1 || (im (ist T (cg L9 i) t p).2 (bp (tg T t) (cg L9 i))).1))), some (.int (nI i)), some (.int ((nI t) + Int32.ofInt (1)))] : ev_L), ([] : List Value)) = _; rw [ev_inc1 t]) ?_
          refine ev_goto (tgt := 38) dX0_addPredecessors_111 (by decide) ?_
          have e9 : ist T (cg L9 i) (t + 1) p = ((ist T (cg L9 i) t p).1 || (im (ist T (cg L9 i) t p).2 (bp (tg T t) (cg L9 i))).1, (im (ist T (cg L9 i) t p).2 (bp (tg T t) (cg L9 i))).2) := if_pos q59
          have e8 := ih (t + 1) M3 (by omega) (hFr.tr hF2) (by rw [e9]; exact hD1) (hC1.fr hD2 (by omega)).wk (by omega)
          rw [e9] at e8
          exact e8
        · refine ev_blk (B := [(.iload 4, 2)]) (pe := 98) (ls' := [some (.ref (o)), some (.ref (m)), some (.int (nI k)), some (.ref (o + 2 + 4 * k)), some (.int (ev_b ((ist T (cg L9 i) t p).1))), some (.int (nI i)), some (.int (nI t))]) (st' := [.int (ev_b ((ist T (cg L9 i) t p).1))]) ⟨dX0_addPredecessors_96, rfl⟩ rfl ?_
          refine ev_ifB_eq dX0_addPredecessors_98 (tgt := 105) (by decide) (fun q98 => ?_) (fun q98 => ?_)
          · refine ev_blk (B := [(.iconst 0, 1)]) (pe := 106) (ls' := [some (.ref (o)), some (.ref (m)), some (.int (nI k)), some (.ref (o + 2 + 4 * k)), some (.int (ev_b ((ist T (cg L9 i) t p).1))), some (.int (nI i)), some (.int (nI t))]) (st' := [.int (nI 0)]) ⟨dX0_addPredecessors_105, rfl⟩ rfl ?_
            refine ev_eqst (st := [.int (ev_b ((ist T (cg L9 i) t p).1 || (im (ist T (cg L9 i) t p).2 (bp (tg T t) (cg L9 i))).1))]) (congrArg (fun z => ([.int (ev_b z)] : List Value)) (show false = ((ist T (cg L9 i) t p).1 || (im (ist T (cg L9 i) t p).2 (bp (tg T t) (cg L9 i))).1) by rw [q98, q93, Bool.or_false])) ?_
            refine ev_blk (B := [(.istore 4, 2), (.iinc 6 1, 3)]) (pe := 111) (ls' := [some (.ref (o)), some (.ref (m)), some (.int (nI k)), some (.ref (o + 2 + 4 * k)), some (.int (ev_b ((ist T (cg L9 i) t p).1 || (im (ist T (cg L9 i) t p).2 (bp (tg T t) (cg L9 i))).1))), some (.int (nI i)), some (.int (nI (t + 1)))]) (st' := []) ⟨dX0_addPredecessors_106, dX0_addPredecessors_108, rfl⟩ (by show some (([some (.ref (o)), some (.ref (m)), some (.int (nI k)), some (.ref (o + 2 + 4 * k)), some (.int (ev_b ((ist T (cg L9 i) t p).1 || (im (ist T (cg L9 i) t p).2 (bp (tg T t) (cg L9 i))).1))), some (.int (nI i)), some (.int ((nI t) + Int32.ofInt (1)))] : ev_L), ([] : List Value)) = _; rw [ev_inc1 t]) ?_
            refine ev_goto (tgt := 38) dX0_addPredecessors_111 (by decide) ?_
            have e9 : ist T (cg L9 i) (t + 1) p = ((ist T (cg L9 i) t p).1 || (im (ist T (cg L9 i) t p).2 (bp (tg T t) (cg L9 i))).1, (im (ist T (cg L9 i) t p).2 (bp (tg T t) (cg L9 i))).2) := if_pos q59
            have e8 := ih (t + 1) M3 (by omega) (hFr.tr hF2) (by rw [e9]; exact hD1) (hC1.fr hD2 (by omega)).wk (by omega)
            rw [e9] at e8
            exact e8
          · refine ev_blk (B := [(.iconst 1, 1)]) (pe := 102) (ls' := [some (.ref (o)), some (.ref (m)), some (.int (nI k)), some (.ref (o + 2 + 4 * k)), some (.int (ev_b ((ist T (cg L9 i) t p).1))), some (.int (nI i)), some (.int (nI t))]) (st' := [.int (nI 1)]) ⟨dX0_addPredecessors_101, rfl⟩ rfl ?_
            refine ev_goto (tgt := 106) dX0_addPredecessors_102 (by decide) ?_
            refine ev_eqst (st := [.int (ev_b ((ist T (cg L9 i) t p).1 || (im (ist T (cg L9 i) t p).2 (bp (tg T t) (cg L9 i))).1))]) (congrArg (fun z => ([.int (ev_b z)] : List Value)) (show true = ((ist T (cg L9 i) t p).1 || (im (ist T (cg L9 i) t p).2 (bp (tg T t) (cg L9 i))).1) by rw [q98, Bool.true_or])) ?_
            refine ev_blk (B := [(.istore 4, 2), (.iinc 6 1, 3)]) (pe := 111) (ls' := [some (.ref (o)), some (.ref (m)), some (.int (nI k)), some (.ref (o + 2 + 4 * k)), some (.int (ev_b ((ist T (cg L9 i) t p).1 || (im (ist T (cg L9 i) t p).2 (bp (tg T t) (cg L9 i))).1))), some (.int (nI i)), some (.int (nI (t + 1)))]) (st' := []) ⟨dX0_addPredecessors_106, dX0_addPredecessors_108, rfl⟩ (by show some (([some (.ref (o)), some (.ref (m)), some (.int (nI k)), some (.ref (o + 2 + 4 * k)), some (.int (ev_b ((ist T (cg L9 i) t p).1 || (im (ist T (cg L9 i) t p).2 (bp (tg T t) (cg L9 i))).1))), some (.int (nI i)), some (.int ((nI t) + Int32.ofInt (1)))] : ev_L), ([] : List Value)) = _; rw [ev_inc1 t]) ?_
            refine ev_goto (tgt := 38) dX0_addPredecessors_111 (by decide) ?_
            have e9 : ist T (cg L9 i) (t + 1) p = ((ist T (cg L9 i) t p).1 || (im (ist T (cg L9 i) t p).2 (bp (tg T t) (cg L9 i))).1, (im (ist T (cg L9 i) t p).2 (bp (tg T t) (cg L9 i))).2) := if_pos q59
            have e8 := ih (t + 1) M3 (by omega) (hFr.tr hF2) (by rw [e9]; exact hD1) (hC1.fr hD2 (by omega)).wk (by omega)
            rw [e9] at e8
            exact e8


set_option maxHeartbeats 4000000 in
set_option maxRecDepth 100000 in
theorem c_X0_addP_l {l : Launch} (hl : l.stackTraces = false)  (o : Nat) (cu co : Bool) (la tr lo : Nat) (m : Nat) (T : List Tr) (hmo : m + 2 ≤ o ∨ o + 60 ≤ m) (hT : trs T) (B : Nat → List Cf) (k : Nat) (hk : k < 13) (hc25 : ∀ j, j ≤ k → cfs 25 (B j)) (hL9 : cfs 23 (B k)) (P9 : List Cf) (hpv : ∀ x, (decide (0 < k) && decide (x ∈ B (k - 1))) = decide (x ∈ P9)) (M0 : ev_M) (hOz : RAo M0 o cu co la tr lo) (hmz : RM M0 m T) (hBz : RBs M0 o B) : ∀ (n9 : Nat) (i : Nat) (M : ev_M), i ≤ (B k).length → Fr (o + 54) (o + 59) M0 M → RQ M (o + 54) 330 (sto T P9 (B k) i (false, B k)).2 → RWk M (o + 58) → (B k).length - i < n9 → ev_ l m_X0_addPredecessors 0 0 12 [some (.ref (o)), some (.ref (m)), some (.int (nI k)), some (.ref (o + 2 + 4 * k)), some (.int (ev_b ((sto T P9 (B k) i (false, B k)).1))), some (.int (nI i)), none] [] M (fun r M1 => r = .inl (some (.int (ev_b (sto T P9 (B k) (B k).length (false, B k)).1))) ∧ RQ M1 (o + 54) 330 (sto T P9 (B k) (B k).length (false, B k)).2 ∧ RWk M1 (o + 58) ∧ Fr (o + 54) (o + 59) M0 M1) := by
  intro n9
  induction n9 with
  | zero => intro i M hi hFr hN hWk hm9; exact absurd hm9 (by omega)
  | succ n9 ih =>
    intro i M hi hFr hN hWk hm9
    have hO := hOz.fr hFr (by omega)
    have hm := hmz.fr hFr (by omega)
    have hBs := hBz.fr hFr (by omega)
    have hb := hBs k hk
    obtain ⟨y, hW⟩ := hWk
    have hten := hm.1
    have h30 := hb.2.1
    have hO9 := hO
    obtain ⟨hO0, fr, hO1, hO2⟩ := hO9
    refine ev_blk (B := [(.iload 5, 2), (.aload_n 3, 1)]) (pe := 15) (ls' := [some (.ref (o)), some (.ref (m)), some (.int (nI k)), some (.ref (o + 2 + 4 * k)), some (.int (ev_b ((sto T P9 (B k) i (false, B k)).1))), some (.int (nI i)), none]) (st' := [.ref (o + 2 + 4 * k), .int (nI i)]) ⟨dX0_addPredecessors_12, dX0_addPredecessors_14, rfl⟩ rfl ?_
    refine ev_cVv Y_X2_size L_RX0_55 dX0_addPredecessors_15 ⟨Nat.le_of_ble_eq_true rfl, Nat.le_of_ble_eq_true rfl, Nat.le_of_ble_eq_true rfl, Nat.le_of_ble_eq_true rfl, Nat.le_of_ble_eq_true rfl⟩ hb.obj (as := []) rfl rfl (c_X2_size hl _ _ _ hb) ?_
    refine ev_iN_ge dX0_addPredecessors_18 (tgt := 120) (by decide) (by omega) (by omega) (fun q18 => ?_) (fun q18 => ?_)
    · refine ev_blk (B := [(.iload 4, 2)]) (pe := 122) (ls' := [some (.ref (o)), some (.ref (m)), some (.int (nI k)), some (.ref (o + 2 + 4 * k)), some (.int (ev_b ((sto T P9 (B k) i (false, B k)).1))), some (.int (nI i)), none]) (st' := [.int (ev_b ((sto T P9 (B k) i (false, B k)).1))]) ⟨dX0_addPredecessors_120, rfl⟩ rfl ?_
      refine ev_iret dX0_addPredecessors_122 rfl (ev_b_nar _) ⟨Nat.le_of_ble_eq_true rfl, Nat.le_of_ble_eq_true rfl⟩ ?_
      have e7 : i = (B k).length := by omega
      rw [e7] at hN ⊢
      exact ⟨rfl, hN, hW.wk, hFr⟩
    · refine ev_blk (B := [(.aload_n 0, 1), (.aload_n 3, 1), (.iload 5, 2), (.iload_n 2, 1)]) (pe := 26) (ls' := [some (.ref (o)), some (.ref (m)), some (.int (nI k)), some (.ref (o + 2 + 4 * k)), some (.int (ev_b ((sto T P9 (B k) i (false, B k)).1))), some (.int (nI i)), none]) (st' := [.int (nI k), .int (nI i), .ref (o + 2 + 4 * k), .ref (o)]) ⟨dX0_addPredecessors_21, dX0_addPredecessors_22, dX0_addPredecessors_23, dX0_addPredecessors_25, rfl⟩ rfl ?_
      have hIs := c_X0_isOld hl o _ _ _ _ _ hO B hBs k hk hc25 i (by omega) _ hW
      rw [hpv] at hIs
      refine ev_cVw Y_X0_isOld L_RX0_109 dX0_addPredecessors_26 ⟨Nat.le_of_ble_eq_true rfl, Nat.le_of_ble_eq_true rfl, Nat.le_of_ble_eq_true rfl, Nat.le_of_ble_eq_true rfl, Nat.le_of_ble_eq_true rfl⟩ hO0 (as := [.ref (o + 2 + 4 * k), .int (nI i), .int (nI k)]) rfl rfl (hIs) (fun M1 hL1 hB1 => ?_)
      obtain ⟨hB1, hB2⟩ := hB1
      have hFr1 := hFr.tr (hB2.to (show o + 54 ≤ o + 58 by omega) (Nat.le_refl _))
      have hN1 := hN.fr hB2 (by omega)
      refine ev_ifB_eq dX0_addPredecessors_29 (tgt := 35) (by decide) (fun q29 => ?_) (fun q29 => ?_)
      · refine ev_blk (B := [(.iconst 0, 1), (.istore 6, 2)]) (pe := 38) (ls' := [some (.ref (o)), some (.ref (m)), some (.int (nI k)), some (.ref (o + 2 + 4 * k)), some (.int (ev_b ((sto T P9 (B k) i (false, B k)).1))), some (.int (nI i)), some (.int (nI 0))]) (st' := []) ⟨dX0_addPredecessors_35, dX0_addPredecessors_36, rfl⟩ rfl ?_
        have e9 : sto T P9 (B k) (i + 1) (false, B k) = ist T (cg (B k) i) T.length (sto T P9 (B k) i (false, B k)) := if_neg (Bool.eq_false_iff.mp q29)
        have z1 : i * T.length ≤ i * 10 := Nat.mul_le_mul_left i hten
        have z2 : (sto T P9 (B k) i (false, B k)).2.length ≤ (B k).length + i * T.length := sto_len i
        refine c_X0_addP_i hl o cu co la tr lo m T hmo hT k hk (B k) hL9 M0 hOz hmz (hBz k hk) i (by omega) (sto T P9 (B k) i (false, B k)) (sto_ok hT hL9 (hL9.le (by omega)) i hi) (by omega) _ (fun M1 t hFr2 hN2 hW2 => ?_) _ 0 _ (Nat.zero_le _) hFr1 hN1 hB1 (Nat.lt_succ_self _)
        rw [← e9] at hN2 ⊢
        refine ev_blk (B := [(.iinc 5 1, 3)]) (pe := 117) (ls' := [some (.ref (o)), some (.ref (m)), some (.int (nI k)), some (.ref (o + 2 + 4 * k)), some (.int (ev_b ((sto T P9 (B k) (i + 1) (false, B k)).1))), some (.int (nI (i + 1))), some (.int (nI t))]) (st' := []) ⟨dX0_addPredecessors_114, rfl⟩ (by show some (([some (.ref (o)), some (.ref (m)), some (.int (nI k)), some (.ref (o + 2 + 4 * k)), some (.int (ev_b ((sto T P9 (B k) (i + 1) (false, B k)).1))), some (.int (nI i + Int32.ofInt 1)), some (.int (nI t))] : ev_L), ([] : List Value)) = _; rw [ev_inc1]) ?_
        refine ev_goto (tgt := 12) dX0_addPredecessors_117 (by decide) ?_
        refine ev_fgt (ls' := [some (.ref (o)), some (.ref (m)), some (.int (nI k)), some (.ref (o + 2 + 4 * k)), some (.int (ev_b ((sto T P9 (B k) (i + 1) (false, B k)).1))), some (.int (nI (i + 1))), none]) ⟨Or.inr rfl, Or.inr rfl, Or.inr rfl, Or.inr rfl, Or.inr rfl, Or.inr rfl, Or.inl rfl, trivial⟩ ?_
        exact ih (i + 1) M1 (by omega) hFr2 hN2 hW2 (by omega)
      · refine ev_goto (tgt := 114) dX0_addPredecessors_32 (by decide) ?_
        refine ev_blk (B := [(.iinc 5 1, 3)]) (pe := 117) (ls' := [some (.ref (o)), some (.ref (m)), some (.int (nI k)), some (.ref (o + 2 + 4 * k)), some (.int (ev_b ((sto T P9 (B k) i (false, B k)).1))), some (.int (nI (i + 1))), none]) (st' := []) ⟨dX0_addPredecessors_114, rfl⟩ (by show some (([some (.ref (o)), some (.ref (m)), some (.int (nI k)), some (.ref (o + 2 + 4 * k)), some (.int (ev_b ((sto T P9 (B k) i (false, B k)).1))), some (.int ((nI i) + Int32.ofInt (1))), none] : ev_L), ([] : List Value)) = _; rw [ev_inc1 i]) ?_
        refine ev_goto (tgt := 12) dX0_addPredecessors_117 (by decide) ?_
        have e9 : sto T P9 (B k) (i + 1) (false, B k) = (sto T P9 (B k) i (false, B k)) := if_pos q29
        have e8 := ih (i + 1) M1 (by omega) hFr1 (by rw [e9]; exact hN1) hB1 (by omega)
        rw [e9] at e8
        exact e8

set_option maxHeartbeats 4000000 in
set_option maxRecDepth 100000 in
theorem c_X0_addPredecessors {l : Launch} (hl : l.stackTraces = false) {M : ev_M} (o : Nat) (cu co : Bool) (la tr lo : Nat) (m : Nat) (T : List Tr) (hmo : m + 2 ≤ o ∨ o + 60 ≤ m) (hT : trs T) (B : Nat → List Cf) (k : Nat) (hk : k < 13) (hc25 : ∀ j, j ≤ k → cfs 25 (B j)) (hL9 : cfs 23 (B k)) (P9 : List Cf) (hpv : ∀ x, (decide (0 < k) && decide (x ∈ B (k - 1))) = decide (x ∈ P9)) (hOz : RAo M o cu co la tr lo) (hmz : RM M m T) (hBz : RBs M o B) (hN : RQ M (o + 54) 330 (B k)) (hW : RWk M (o + 58)) : ev_Mt l m_X0_addPredecessors [.ref (o), .ref (m), .int (nI k)] M (fun r M1 => r = .inl (some (.int (ev_b (sto T P9 (B k) (B k).length (false, B k)).1))) ∧ RQ M1 (o + 54) 330 (sto T P9 (B k) (B k).length (false, B k)).2 ∧ RWk M1 (o + 58) ∧ Fr (o + 54) (o + 59) M M1) := by
  have hO := hOz
  have hO9 := hO
  obtain ⟨hO0, fr, hO1, hO2⟩ := hO9
  refine ev_body hl rfl (by decide +kernel) (Nat.le_of_ble_eq_true rfl) ?_
  show ev_ l m_X0_addPredecessors 0 0 0 [some (.ref (o)), some (.ref (m)), some (.int (nI k)), none, none, none, none] [] M _
  refine ev_blk (B := [(.aload_n 0, 1), (.iload_n 2, 1)]) (pe := 2) (ls' := [some (.ref (o)), some (.ref (m)), some (.int (nI k)), none, none, none, none]) (st' := [.int (nI k), .ref (o)]) ⟨dX0_addPredecessors_0, dX0_addPredecessors_1, rfl⟩ rfl ?_
  refine ev_cVv Y_X0_basisOf L_RX0_59 dX0_addPredecessors_2 ⟨Nat.le_of_ble_eq_true rfl, Nat.le_of_ble_eq_true rfl, Nat.le_of_ble_eq_true rfl, Nat.le_of_ble_eq_true rfl, Nat.le_of_ble_eq_true rfl⟩ hO0 (as := [.int (nI k)]) rfl rfl (c_X0_basisOf hl o _ _ _ _ _ hO (k) (by omega)) ?_
  refine ev_blk (B := [(.astore_n 3, 1), (.iconst 0, 1), (.istore 4, 2), (.iconst 0, 1), (.istore 5, 2)]) (pe := 12) (ls' := [some (.ref (o)), some (.ref (m)), some (.int (nI k)), some (.ref (o + 2 + 4 * k)), some (.int (nI 0)), some (.int (nI 0)), none]) (st' := []) ⟨dX0_addPredecessors_5, dX0_addPredecessors_6, dX0_addPredecessors_7, dX0_addPredecessors_9, dX0_addPredecessors_10, rfl⟩ rfl ?_
  refine ev_eqls (ls := [some (.ref (o)), some (.ref (m)), some (.int (nI k)), some (.ref (o + 2 + 4 * k)), some (.int (ev_b ((sto T P9 (B k) 0 (false, B k)).1))), some (.int (nI 0)), none]) rfl ?_
  exact c_X0_addP_l hl o cu co la tr lo m T hmo hT B k hk hc25 hL9 P9 hpv M hOz hmz hBz _ 0 M (Nat.zero_le _) Fr.rf hN hW (Nat.lt_succ_self _)

theorem c_X0_addP {l : Launch} (hl : l.stackTraces = false) {M : ev_M} (o : Nat) (cu co : Bool) (la tr lo : Nat) (m : Nat) (T : List Tr) (hmo : m + 2 ≤ o ∨ o + 60 ≤ m) (hT : trs T) (G : List Cf) (B : Nat → List Cf) (k : Nat) (hk : k < 13) (hc25 : ∀ j, j ≤ k → cfs 25 (B j)) (hL9 : cfs 23 (bl T G k)) (hBk : B k = bl T G k) (hpv : ∀ x, (decide (0 < k) && decide (x ∈ B (k - 1))) = decide (x ∈ pv T G k)) (hOz : RAo M o cu co la tr lo) (hmz : RM M m T) (hBz : RBs M o B) (hN : RQ M (o + 54) 330 (bl T G k)) (hW : RWk M (o + 58)) :
    ev_Mt l m_X0_addPredecessors [.ref o, .ref m, .int (nI k)] M (fun r M1 => r = .inl (some (.int (ev_b (chg T G (k + 1))))) ∧ RQ M1 (o + 54) 330 (bl T G (k + 1)) ∧ RWk M1 (o + 58) ∧ Fr (o + 54) (o + 59) M M1) := by
  have h := c_X0_addPredecessors hl o cu co la tr lo m T hmo hT B k hk hc25 (by rw [hBk]; exact hL9) (pv T G k) hpv hOz hmz hBz (by rw [hBk]; exact hN) hW
  rw [hBk, ← nx_s] at h
  exact h
theorem rl_stop {T : List Tr} {G : List Cf} {k la : Nat} {co : Bool} {R : Bool × Nat} (hR : (if co = true then (true, la) else rl T G (13 - k) k la) = R) (h : 12 < k ∨ 30 < (bl T G k).length ∨ co = true) : R = (co, la) := by
  subst hR
  cases co with
  | true => rfl
  | false =>
    rw [if_neg (by decide)]
    rcases h with h | h | h
    · rw [show 13 - k = 0 by omega]; rfl
    · cases hn : 13 - k with
      | zero => rfl
      | succ n =>
        show (if _ then _ else _) = _
        rw [if_neg (by omega)]
    · exact absurd h (by decide)
theorem rl_go {T : List Tr} {G : List Cf} {k la : Nat} {R : Bool × Nat} (hR : (if false = true then (true, la) else rl T G (13 - k) k la) = R) (hk : k < 13) (h : (bl T G k).length ≤ 30) : (if (!chg T G (k + 1)) = true then (true, k) else rl T G (13 - (k + 1)) (k + 1) k) = R := by
  rw [if_neg (by decide), show 13 - k = (13 - (k + 1)) + 1 by omega] at hR
  rw [← hR]
  show _ = (if _ then _ else _)
  rw [if_pos h]
  cases chg T G (k + 1) <;> rfl
set_option maxHeartbeats 4000000 in
set_option maxRecDepth 100000 in
theorem c_X0_run_l {l : Launch} (hl : l.stackTraces = false)  (o : Nat) (tr lo : Nat) (m : Nat) (T : List Tr) (hmo : m + 2 ≤ o ∨ o + 60 ≤ m) (hT : trs T) (g gcap : Nat) (G : List Cf) (hgo : g + 4 ≤ o ∨ o + 60 ≤ g) (hG10 : cfs 10 G) (hG3 : G.length ≤ 3) (R9 : Bool × Nat) (M0 : ev_M) : ∀ (n9 : Nat) (k : Nat) (M : ev_M) (B : Nat → List Cf) (co : Bool) (la : Nat), k ≤ 13 → (if co = true then (true, la) else rl T G (13 - k) k la) = R9 → RAo M o true co la tr lo → RBs M o B → (∀ j, j < k → B j = bl T G j) → RQ M (o + 54) 330 (bl T G k) → RWk M (o + 58) → RM M m T → Fr o (o + 59) M0 M → (k = 0 ∧ co = false ∨ la < k) → 13 - k < n9 → ev_ l m_X0_run 0 0 29 [some (.ref (o)), some (.ref (m)), some (.ref (g)), some (.int (nI k))] [] M (fun r M1 => r = .inl (some (.int (ev_b R9.1))) ∧ (∃ B N, RAo M1 o true R9.1 R9.2 tr lo ∧ RBs M1 o B ∧ (∀ j, j ≤ R9.2 → B j = bl T G j) ∧ RQ M1 (o + 54) 330 N) ∧ R9.2 < 13 ∧ RWk M1 (o + 58) ∧ Fr o (o + 59) M0 M1) := by
  intro n9
  induction n9 with
  | zero => intro k M B co la hk13 hR hO hBs hBj hN hWk hm hFr hk0 hm9; exact absurd hm9 (by omega)
  | succ n9 ih =>
    intro k M B co la hk13 hR hO hBs hBj hN hWk hm hFr hk0 hm9
    obtain ⟨hO0, fr, hO1, hO2⟩ := id hO
    have hbk0 := bl_ok hT hG10 k
    refine ev_blk (B := [(.iload_n 3, 1), (.bipush 12, 2)]) (pe := 32) (ls' := [some (.ref (o)), some (.ref (m)), some (.ref (g)), some (.int (nI k))]) (st' := [.int (nI 12), .int (nI k)]) ⟨dX0_run_29, dX0_run_30, rfl⟩ rfl ?_
    refine ev_iN_gt dX0_run_32 (tgt := 95) (by decide) (by (have := hN.2.1; omega)) (by (have := hN.2.1; omega)) (fun q32 => ?_) (fun q32 => ?_)
    · refine ev_blk (B := [(.aload_n 0, 1)]) (pe := 96) (ls' := [some (.ref (o)), some (.ref (m)), some (.ref (g)), some (.int (nI k))]) (st' := [.ref (o)]) ⟨dX0_run_95, rfl⟩ rfl ?_
      refine ev_getf (v := .int (ev_b (co))) F_RX0_38 dX0_run_96 hO0 rfl ?_
      refine ev_iret dX0_run_99 rfl (ev_b_nar _) ⟨Nat.le_of_ble_eq_true rfl, Nat.le_of_ble_eq_true rfl⟩ ?_
      have hX := rl_stop hR (Or.inl (by omega))
      have hla : la < k := by
        rcases hk0 with e | e <;> omega
      subst hX
      exact ⟨rfl, ⟨B, _, hO, hBs, fun j hj => hBj j (Nat.lt_of_le_of_lt hj hla), hN⟩, (by show la < 13; omega), hWk, hFr⟩
    · refine ev_blk (B := [(.aload_n 0, 1)]) (pe := 36) (ls' := [some (.ref (o)), some (.ref (m)), some (.ref (g)), some (.int (nI k))]) (st' := [.ref (o)]) ⟨dX0_run_35, rfl⟩ rfl ?_
      refine ev_getf (v := .ref (o + 54)) F_RX0_20 dX0_run_36 hO0 rfl ?_
      refine ev_cVv Y_X2_size L_RX0_55 dX0_run_39 ⟨Nat.le_of_ble_eq_true rfl, Nat.le_of_ble_eq_true rfl, Nat.le_of_ble_eq_true rfl, Nat.le_of_ble_eq_true rfl, Nat.le_of_ble_eq_true rfl⟩ hN.obj (as := []) rfl rfl (c_X2_size hl _ _ _ hN) ?_
      refine ev_blk (B := [(.bipush 30, 2)]) (pe := 44) (ls' := [some (.ref (o)), some (.ref (m)), some (.ref (g)), some (.int (nI k))]) (st' := [.int (nI 30), .int (nI ((bl T G k).length))]) ⟨dX0_run_42, rfl⟩ rfl ?_
      refine ev_iN_gt dX0_run_44 (tgt := 95) (by decide) (by (have := hN.2.1; omega)) (by (have := hN.2.1; omega)) (fun q44 => ?_) (fun q44 => ?_)
      · refine ev_blk (B := [(.aload_n 0, 1)]) (pe := 96) (ls' := [some (.ref (o)), some (.ref (m)), some (.ref (g)), some (.int (nI k))]) (st' := [.ref (o)]) ⟨dX0_run_95, rfl⟩ rfl ?_
        refine ev_getf (v := .int (ev_b (co))) F_RX0_38 dX0_run_96 hO0 rfl ?_
        refine ev_iret dX0_run_99 rfl (ev_b_nar _) ⟨Nat.le_of_ble_eq_true rfl, Nat.le_of_ble_eq_true rfl⟩ ?_
        have hX := rl_stop hR (Or.inr (Or.inl (by omega)))
        have hla : la < k := by
          rcases hk0 with ⟨e, _⟩ | e
          · have z9 := gsn_len (G := G) G.length
            rw [e] at q44
            have z8 : (bl T G 0).length ≤ G.length := z9
            omega
          · exact e
        subst hX
        exact ⟨rfl, ⟨B, _, hO, hBs, fun j hj => hBj j (Nat.lt_of_le_of_lt hj hla), hN⟩, (by show la < 13; omega), hWk, hFr⟩
      · refine ev_blk (B := [(.aload_n 0, 1)]) (pe := 48) (ls' := [some (.ref (o)), some (.ref (m)), some (.ref (g)), some (.int (nI k))]) (st' := [.ref (o)]) ⟨dX0_run_47, rfl⟩ rfl ?_
        refine ev_getf (v := .int (ev_b (co))) F_RX0_38 dX0_run_48 hO0 rfl ?_
        refine ev_ifB_ne dX0_run_51 (tgt := 95) (by decide) (fun q51 => ?_) (fun q51 => ?_)
        · refine ev_blk (B := [(.aload_n 0, 1)]) (pe := 96) (ls' := [some (.ref (o)), some (.ref (m)), some (.ref (g)), some (.int (nI k))]) (st' := [.ref (o)]) ⟨dX0_run_95, rfl⟩ rfl ?_
          refine ev_getf (v := .int (ev_b (co))) F_RX0_38 dX0_run_96 hO0 rfl ?_
          refine ev_iret dX0_run_99 rfl (ev_b_nar _) ⟨Nat.le_of_ble_eq_true rfl, Nat.le_of_ble_eq_true rfl⟩ ?_
          have hX := rl_stop hR (Or.inr (Or.inr q51))
          have hla : la < k := by
            rcases hk0 with ⟨_, e⟩ | e
            · rw [q51] at e; exact absurd e (by decide)
            · exact e
          subst hX
          exact ⟨rfl, ⟨B, _, hO, hBs, fun j hj => hBj j (Nat.lt_of_le_of_lt hj hla), hN⟩, (by show la < 13; omega), hWk, hFr⟩
        · have hco : co = false := q51
          subst hco
          have hc25k : ∀ j, j ≤ k → cfs 25 ((fun j => if j = k then bl T G k else B j) j) := by
            intro j hj
            by_cases e : j = k
            · show cfs 25 (if j = k then _ else _)
              rw [if_pos e]; exact hbk0.le (by omega)
            · show cfs 25 (if j = k then _ else _)
              rw [if_neg e, hBj j (by omega)]; exact (bl_ok hT hG10 j).le (by omega)
          have hL23 : cfs 23 (bl T G k) := hbk0.le (by omega)
          have hpvk : ∀ x, (decide (0 < k) && decide (x ∈ (fun j => if j = k then bl T G k else B j) (k - 1))) = decide (x ∈ pv T G k) := by
            intro x
            by_cases e : k = 0
            · rw [decide_eq_false (show ¬ 0 < k by omega)]
              subst e
              exact (decide_eq_false (List.not_mem_nil)).symm
            · obtain ⟨k2, e2⟩ : ∃ k2, k = k2 + 1 := ⟨k - 1, by omega⟩
              rw [decide_eq_true (show 0 < k by omega), Bool.true_and]
              have hB0 : (if k - 1 = k then bl T G k else B (k - 1)) = pv T G k := by rw [if_neg (by omega), hBj (k - 1) (by omega), e2, pv_s, Nat.add_sub_cancel]
              exact decide_eq_decide.mpr (show x ∈ (if k - 1 = k then bl T G k else B (k - 1)) ↔ _ by rw [hB0])
          refine ev_blk (B := [(.aload_n 0, 1), (.iload_n 3, 1)]) (pe := 56) (ls' := [some (.ref (o)), some (.ref (m)), some (.ref (g)), some (.int (nI k))]) (st' := [.int (nI k), .ref (o)]) ⟨dX0_run_54, dX0_run_55, rfl⟩ rfl ?_
          refine ev_cVv Y_X0_basisOf L_RX0_59 dX0_run_56 ⟨Nat.le_of_ble_eq_true rfl, Nat.le_of_ble_eq_true rfl, Nat.le_of_ble_eq_true rfl, Nat.le_of_ble_eq_true rfl, Nat.le_of_ble_eq_true rfl⟩ hO0 (as := [.int (nI k)]) rfl rfl (c_X0_basisOf hl o _ _ _ _ _ hO (k) (by omega)) ?_
          refine ev_blk (B := [(.aload_n 0, 1)]) (pe := 60) (ls' := [some (.ref (o)), some (.ref (m)), some (.ref (g)), some (.int (nI k))]) (st' := [.ref (o), .ref (o + 2 + 4 * k)]) ⟨dX0_run_59, rfl⟩ rfl ?_
          refine ev_getf (v := .ref (o + 54)) F_RX0_20 dX0_run_60 hO0 rfl ?_
          refine ev_cVn Y_X2_copyFrom L_RX0_63 dX0_run_63 ⟨Nat.le_of_ble_eq_true rfl, Nat.le_of_ble_eq_true rfl, Nat.le_of_ble_eq_true rfl, Nat.le_of_ble_eq_true rfl, Nat.le_of_ble_eq_true rfl⟩ (hBs k (by omega)).obj (as := [.ref (o + 54)]) rfl rfl (c_X2_copyFrom hl _ _ _ _ _ _ (hBs k (by omega)) hN (by omega) (by omega)) (fun M1 hL1 hB1 => ?_)
          obtain ⟨hB1, hB2⟩ := hB1
          have hO3 := hO.fr hB2 (by omega)
          have hO4 := hO3
          obtain ⟨hO5, fr1, hO6, hO7⟩ := hO4
          have hN3 := hN.fr hB2 (by omega)
          have hm3 := hm.fr hB2 (by omega)
          have hW3 := hWk.fr hB2 (by omega)
          have hBs3 : RBs M1 o (fun j => if j = k then bl T G k else B j) := by
            intro j hj
            by_cases e : j = k
            · show RQ _ _ _ (if j = k then _ else _)
              rw [if_pos e, e]; exact hB1
            · show RQ _ _ _ (if j = k then _ else _)
              rw [if_neg e]; exact (hBs j hj).fr hB2 (by omega)
          refine ev_blk (B := [(.aload_n 0, 1), (.iload_n 3, 1)]) (pe := 68) (ls' := [some (.ref (o)), some (.ref (m)), some (.ref (g)), some (.int (nI k))]) (st' := [.int (nI k), .ref (o)]) ⟨dX0_run_66, dX0_run_67, rfl⟩ rfl ?_
          refine ev_put F_RX0_41 dX0_run_68 hO5 (Nat.le_of_ble_eq_true rfl) (fun _ _ => ⟨rfl, rfl⟩) ?_
          refine ev_nm (M0 := M1.set (o) (.inr (0, [.ref (o + 1), .ref (o + 54), .ref (o + 58), .ref (o + 59), .int (ev_b (true)), .int (ev_b (false)), .int (nI k), .int (nI tr), .int (nI lo)]))) (fun M2 eM2 => ?_)
          have f3 : M2[o]? = some (.inr (0, [.ref (o + 1), .ref (o + 54), .ref (o + 58), .ref (o + 59), .int (ev_b (true)), .int (ev_b (false)), .int (nI k), .int (nI tr), .int (nI lo)])) := by rw [eM2]; exact ev_sg hO5
          have f4 : M2[o + 1]? = some (.inl (3, 13, .inr (.inr (.inr (.inr (fr1)))))) := by rw [eM2, ev_sn (by omega)]; exact hO6
          refine ev_blk (B := [(.aload_n 0, 1), (.aload_n 0, 1), (.aload_n 1, 1), (.iload_n 3, 1)]) (pe := 75) (ls' := [some (.ref (o)), some (.ref (m)), some (.ref (g)), some (.int (nI k))]) (st' := [.int (nI k), .ref (m), .ref (o), .ref (o)]) ⟨dX0_run_71, dX0_run_72, dX0_run_73, dX0_run_74, rfl⟩ rfl ?_
          have hFa : Fr o (o + 1) M1 M2 := ⟨by rw [eM2]; simp only [List.length_set], fun j hj => by rw [eM2, ev_sn (by omega)]⟩
          have hO8 : RAo M2 o true false k tr lo := ⟨f3, fr1, f4, hO7⟩
          have hN4 := hN3.fr hFa (by omega)
          have hBs4 := hBs3.fr hFa (by omega)
          have hm4 := hm3.fr hFa (by omega)
          have hW4 := hW3.fr hFa (by omega)
          refine ev_cVw Y_X0_addPredecessors L_RX0_66 dX0_run_75 ⟨Nat.le_of_ble_eq_true rfl, Nat.le_of_ble_eq_true rfl, Nat.le_of_ble_eq_true rfl, Nat.le_of_ble_eq_true rfl, Nat.le_of_ble_eq_true rfl⟩ f3 (as := [.ref (m), .int (nI k)]) rfl rfl (c_X0_addP hl o true false k tr lo m T hmo hT G (fun j => if j = k then bl T G k else B j) k (by omega) hc25k hL23 (if_pos rfl) hpvk hO8 hm4 hBs4 hN4 hW4) (fun M5 hL5 hB5 => ?_)
          obtain ⟨hD1, hD2, hD3⟩ := hB5
          have hP3 := hO8.fr hD3 (by omega)
          have hP4 := hP3
          obtain ⟨hP5, fr2, hP6, hP7⟩ := hP4
          have hBs5 := hBs4.fr hD3 (by omega)
          have hm5 := hm4.fr hD3 (by omega)
          refine ev_ifB_ne dX0_run_78 (tgt := 85) (by decide) (fun q78 => ?_) (fun q78 => ?_)
          · refine ev_blk (B := [(.iconst 0, 1)]) (pe := 86) (ls' := [some (.ref (o)), some (.ref (m)), some (.ref (g)), some (.int (nI k))]) (st' := [.int (nI 0), .ref (o)]) ⟨dX0_run_85, rfl⟩ rfl ?_
            refine ev_put F_RX0_38 dX0_run_86 hP5 (Nat.le_of_ble_eq_true rfl) (fun _ _ => ⟨rfl, rfl⟩) ?_
            refine ev_nm (M0 := M5.set (o) (.inr (0, [.ref (o + 1), .ref (o + 54), .ref (o + 58), .ref (o + 59), .int (ev_b (true)), .int (nI 0), .int (nI k), .int (nI tr), .int (nI lo)]))) (fun M6 eM6 => ?_)
            have f7 : M6[o]? = some (.inr (0, [.ref (o + 1), .ref (o + 54), .ref (o + 58), .ref (o + 59), .int (ev_b (true)), .int (nI 0), .int (nI k), .int (nI tr), .int (nI lo)])) := by rw [eM6]; exact ev_sg hP5
            have f8 : M6[o + 1]? = some (.inl (3, 13, .inr (.inr (.inr (.inr (fr2)))))) := by rw [eM6, ev_sn (by omega)]; exact hP6
            refine ev_blk (B := [(.iinc 3 1, 3)]) (pe := 92) (ls' := [some (.ref (o)), some (.ref (m)), some (.ref (g)), some (.int (nI (k + 1)))]) (st' := []) ⟨dX0_run_89, rfl⟩ (by show some (([some (.ref (o)), some (.ref (m)), some (.ref (g)), some (.int ((nI k) + Int32.ofInt (1)))] : ev_L), ([] : List Value)) = _; rw [ev_inc1 k]) ?_
            refine ev_goto (tgt := 29) dX0_run_92 (by decide) ?_
            have hFb : Fr o (o + 1) M5 M6 := ⟨by rw [eM6]; simp only [List.length_set], fun j hj => by rw [eM6, ev_sn (by omega)]⟩
            have hc9 : (!chg T G (k + 1)) = false := by first | rw [q78]; rfl | (rw [Bool.eq_false_iff.mpr q78]; rfl) | (rw [Bool.not_eq_true _ ▸ q78]; rfl)
            have hR9 := rl_go hR (by omega) (by omega)
            rw [hc9] at hR9
            refine ih (k + 1) M6 (fun j => if j = k then bl T G k else B j) false k (by omega) hR9 ⟨f7, fr2, f8, hP7⟩ (hBs5.fr hFb (by omega)) (fun j hj => ?_) (hD1.fr hFb (by omega)) (hD2.fr hFb (by omega)) (hm5.fr hFb (by omega)) ((((hFr.tr (hB2.to (by omega) (by omega))).tr (hFa.to (by omega) (by omega))).tr (hD3.to (by omega) (by omega))).tr (hFb.to (by omega) (by omega))) (Or.inr (by omega)) (by omega)
            by_cases e : j = k
            · subst e; exact if_pos rfl
            · exact (if_neg e).trans (hBj j (by omega))
          · refine ev_blk (B := [(.iconst 1, 1)]) (pe := 82) (ls' := [some (.ref (o)), some (.ref (m)), some (.ref (g)), some (.int (nI k))]) (st' := [.int (nI 1), .ref (o)]) ⟨dX0_run_81, rfl⟩ rfl ?_
            refine ev_goto (tgt := 86) dX0_run_82 (by decide) ?_
            refine ev_put F_RX0_38 dX0_run_86 hP5 (Nat.le_of_ble_eq_true rfl) (fun _ _ => ⟨rfl, rfl⟩) ?_
            refine ev_nm (M0 := M5.set (o) (.inr (0, [.ref (o + 1), .ref (o + 54), .ref (o + 58), .ref (o + 59), .int (ev_b (true)), .int (nI 1), .int (nI k), .int (nI tr), .int (nI lo)]))) (fun M9 eM9 => ?_)
            have f10 : M9[o]? = some (.inr (0, [.ref (o + 1), .ref (o + 54), .ref (o + 58), .ref (o + 59), .int (ev_b (true)), .int (nI 1), .int (nI k), .int (nI tr), .int (nI lo)])) := by rw [eM9]; exact ev_sg hP5
            have f11 : M9[o + 1]? = some (.inl (3, 13, .inr (.inr (.inr (.inr (fr2)))))) := by rw [eM9, ev_sn (by omega)]; exact hP6
            refine ev_blk (B := [(.iinc 3 1, 3)]) (pe := 92) (ls' := [some (.ref (o)), some (.ref (m)), some (.ref (g)), some (.int (nI (k + 1)))]) (st' := []) ⟨dX0_run_89, rfl⟩ (by show some (([some (.ref (o)), some (.ref (m)), some (.ref (g)), some (.int ((nI k) + Int32.ofInt (1)))] : ev_L), ([] : List Value)) = _; rw [ev_inc1 k]) ?_
            refine ev_goto (tgt := 29) dX0_run_92 (by decide) ?_
            have hFb : Fr o (o + 1) M5 M9 := ⟨by rw [eM9]; simp only [List.length_set], fun j hj => by rw [eM9, ev_sn (by omega)]⟩
            have hc9 : (!chg T G (k + 1)) = true := by first | rw [q78]; rfl | (rw [Bool.eq_false_iff.mpr q78]; rfl) | (rw [Bool.not_eq_true _ ▸ q78]; rfl)
            have hR9 := rl_go hR (by omega) (by omega)
            rw [hc9] at hR9
            refine ih (k + 1) M9 (fun j => if j = k then bl T G k else B j) true k (by omega) hR9 ⟨f10, fr2, f11, hP7⟩ (hBs5.fr hFb (by omega)) (fun j hj => ?_) (hD1.fr hFb (by omega)) (hD2.fr hFb (by omega)) (hm5.fr hFb (by omega)) ((((hFr.tr (hB2.to (by omega) (by omega))).tr (hFa.to (by omega) (by omega))).tr (hD3.to (by omega) (by omega))).tr (hFb.to (by omega) (by omega))) (Or.inr (by omega)) (by omega)
            by_cases e : j = k
            · subst e; exact if_pos rfl
            · exact (if_neg e).trans (hBj j (by omega))


/-! ===== Machine: writers ===== -/
theorem RP5.push {n : Nat} {f : Nat → Int32} {T : List Tr} {t : Tr} (hn : n = T.length) (hP : RP5 n f T) {g : Nat → Int32} (hg : ∀ j, j < 5 * n → g j = f j) (h0 : ∀ k, k < 5 → g (5 * n + k) = tp t k) : RP5 (n + 1) g (T ++ [t]) := by
  subst hn
  intro i hi k hk
  by_cases e : i = T.length
  · subst e
    have : tg (T ++ [t]) T.length = t := tg_app_r (i := 0)
    rw [this]; exact h0 k hk
  · rw [tg_app_l (by omega), hg _ (by omega)]
    exact hP i (by omega) k hk
theorem RP5.sub {n m : Nat} {f : Nat → Int32} {T T' : List Tr} (hP : RP5 n f T) (hm : m ≤ n) (he : ∀ i, i < m → tg T' i = tg T i) : RP5 m f T' := fun i hi k hk => by rw [he i hi]; exact hP i (by omega) k hk
theorem tp_0 {t : Tr} (h : t.2.2.1 = 0) : tp t 3 = -1 ∧ tp t 4 = -1 := ⟨if_pos h, if_pos h⟩
set_option maxHeartbeats 4000000 in
set_option maxRecDepth 100000 in
theorem c_X4_removeAll {l : Launch} (hl : l.stackTraces = false) {M : ev_M} (o : Nat) (T : List Tr) (hR : RM M o T) : ev_Mt l m_X4_removeAll [.ref (o)] M (fun r M1 => r = .inl none ∧ RM M1 o [] ∧ Fr o (o + 2) M M1) := by
  obtain ⟨hten, f, ⟨hA0, hA1⟩, hP⟩ := hR
  refine ev_body hl rfl (by decide +kernel) (Nat.le_of_ble_eq_true rfl) ?_
  show ev_ l m_X4_removeAll 0 0 0 [some (.ref (o))] [] M _
  refine ev_blk (B := [(.aload_n 0, 1), (.iconst 0, 1)]) (pe := 2) (ls' := [some (.ref (o))]) (st' := [.int (nI 0), .ref (o)]) ⟨dX4_removeAll_0, dX4_removeAll_1, rfl⟩ rfl ?_
  refine ev_put F_RX4_15 dX4_removeAll_2 hA0 (Nat.le_of_ble_eq_true rfl) (fun _ _ => ⟨rfl, rfl⟩) ?_
  refine ev_nm (M0 := M.set (o) (.inr (4, [.ref (o + 1), .int (nI 0)]))) (fun M1 eM1 => ?_)
  have f2 : M1[o]? = some (.inr (4, [.ref (o + 1), .int (nI 0)])) := by rw [eM1]; exact ev_sg hA0
  have f3 : M1[o + 1]? = some (.inl (0, 50, .inl (f))) := by rw [eM1, ev_sn (by omega)]; exact hA1
  refine ev_vret dX4_removeAll_5 rfl ⟨Nat.le_of_ble_eq_true rfl, Nat.le_of_ble_eq_true rfl⟩ ?_
  exact ⟨rfl, ⟨by decide, f, ⟨f2, f3⟩, fun i hi => absurd hi (Nat.not_lt_zero _)⟩, ⟨by rw [eM1]; simp only [List.length_set], fun j hj => by rw [eM1, ev_sn (by omega)]⟩⟩

set_option maxHeartbeats 4000000 in
set_option maxRecDepth 100000 in
theorem c_X4_add {l : Launch} (hl : l.stackTraces = false) {M : ev_M} (o : Nat) (T : List Tr) (hR : RM M o T) (hlt : T.length < 10) (t : Tr) (ch lt : Int32) (h3 : t.2.2.1 ≠ 0 → ch = tp t 3) (h4 : t.2.2.1 ≠ 0 → lt = tp t 4) (ht : trO t) : ev_Mt l m_X4_add [.ref (o), .int (nI (t.1)), .int (nI (t.2.1)), .int (nI (t.2.2.1)), .int (ch), .int (lt)] M (fun r M1 => r = .inl none ∧ RM M1 o (T ++ [t]) ∧ Fr o (o + 2) M M1) := by
  obtain ⟨hten, f, ⟨hA0, hA1⟩, hP⟩ := hR
  obtain ⟨b0, b1, b2, b3, b4⟩ := ht
  refine ev_body hl rfl (by decide +kernel) (Nat.le_of_ble_eq_true rfl) ?_
  show ev_ l m_X4_add 0 0 0 [some (.ref (o)), some (.int (nI (t.1))), some (.int (nI (t.2.1))), some (.int (nI (t.2.2.1))), some (.int (ch)), some (.int (lt)), none] [] M _
  refine ev_blk (B := [(.aload_n 0, 1)]) (pe := 1) (ls' := [some (.ref (o)), some (.int (nI (t.1))), some (.int (nI (t.2.1))), some (.int (nI (t.2.2.1))), some (.int (ch)), some (.int (lt)), none]) (st' := [.ref (o)]) ⟨dX4_add_0, rfl⟩ rfl ?_
  refine ev_getf (v := .int (nI (T.length))) F_RX4_15 dX4_add_1 hA0 rfl ?_
  refine ev_blk (B := [(.bipush 10, 2)]) (pe := 6) (ls' := [some (.ref (o)), some (.int (nI (t.1))), some (.int (nI (t.2.1))), some (.int (nI (t.2.2.1))), some (.int (ch)), some (.int (lt)), none]) (st' := [.int (nI 10), .int (nI (T.length))]) ⟨dX4_add_4, rfl⟩ rfl ?_
  refine ev_iN_lt dX4_add_6 (tgt := 10) (by decide) (by omega) (by omega) (fun q6 => ?_) (fun q6 => ?_)
  · refine ev_blk (B := [(.iconst 5, 1), (.aload_n 0, 1)]) (pe := 12) (ls' := [some (.ref (o)), some (.int (nI (t.1))), some (.int (nI (t.2.1))), some (.int (nI (t.2.2.1))), some (.int (ch)), some (.int (lt)), none]) (st' := [.ref (o), .int (nI 5)]) ⟨dX4_add_10, dX4_add_11, rfl⟩ rfl ?_
    refine ev_getf (v := .int (nI (T.length))) F_RX4_15 dX4_add_12 hA0 rfl ?_
    refine ev_blk (B := [(.imul, 1), (.istore 6, 2), (.aload_n 0, 1)]) (pe := 19) (ls' := [some (.ref (o)), some (.int (nI (t.1))), some (.int (nI (t.2.1))), some (.int (nI (t.2.2.1))), some (.int (ch)), some (.int (lt)), some (.int (nI (5 * (T.length))))]) (st' := [.ref (o)]) ⟨dX4_add_15, dX4_add_16, dX4_add_18, rfl⟩ (by show some (([some (.ref (o)), some (.int (nI (t.1))), some (.int (nI (t.2.1))), some (.int (nI (t.2.2.1))), some (.int (ch)), some (.int (lt)), some (.int ((nI 5) * (nI (T.length))))] : ev_L), ([.ref (o)] : List Value)) = _; rw [pk_mul 5 (T.length)]) ?_
    refine ev_getf (v := .ref (o + 1)) F_RX4_9 dX4_add_19 hA0 rfl ?_
    refine ev_blk (B := [(.iload 6, 2), (.iconst 0, 1), (.iadd, 1), (.iload_n 1, 1)]) (pe := 27) (ls' := [some (.ref (o)), some (.int (nI (t.1))), some (.int (nI (t.2.1))), some (.int (nI (t.2.2.1))), some (.int (ch)), some (.int (lt)), some (.int (nI (5 * (T.length))))]) (st' := [.int (nI (t.1)), .int (nI ((5 * (T.length)) + 0)), .ref (o + 1)]) ⟨dX4_add_22, dX4_add_24, dX4_add_25, dX4_add_26, rfl⟩ (by show some (([some (.ref (o)), some (.int (nI (t.1))), some (.int (nI (t.2.1))), some (.int (nI (t.2.2.1))), some (.int (ch)), some (.int (lt)), some (.int (nI (5 * (T.length))))] : ev_L), ([.int (nI (t.1)), .int ((nI (5 * (T.length))) + (nI 0)), .ref (o + 1)] : List Value)) = _; rw [nI_add (5 * (T.length)) 0]) ?_
    refine ev_iast dX4_add_27 hA1 (vp_in_nI (show (5 * (T.length)) + 0 < 50 by omega) (by omega)) ?_
    rw [nI_clamp (show (5 * (T.length)) + 0 < 2 ^ 31 by omega)]
    refine ev_nm (M0 := M.set (o + 1) (.inl (0, 50, .inl (upd f ((5 * (T.length)) + 0) (nI (t.1)))))) (fun M1 eM1 => ?_)
    have f2 : M1[o]? = some (.inr (4, [.ref (o + 1), .int (nI (T.length))])) := by rw [eM1, ev_sn (by omega)]; exact hA0
    have f3 : M1[o + 1]? = some (.inl (0, 50, .inl (upd f ((5 * (T.length)) + 0) (nI (t.1))))) := by rw [eM1]; exact ev_sg hA1
    refine ev_blk (B := [(.aload_n 0, 1)]) (pe := 29) (ls' := [some (.ref (o)), some (.int (nI (t.1))), some (.int (nI (t.2.1))), some (.int (nI (t.2.2.1))), some (.int (ch)), some (.int (lt)), some (.int (nI (5 * (T.length))))]) (st' := [.ref (o)]) ⟨dX4_add_28, rfl⟩ rfl ?_
    refine ev_getf (v := .ref (o + 1)) F_RX4_9 dX4_add_29 f2 rfl ?_
    refine ev_blk (B := [(.iload 6, 2), (.iconst 1, 1), (.iadd, 1), (.iload_n 2, 1)]) (pe := 37) (ls' := [some (.ref (o)), some (.int (nI (t.1))), some (.int (nI (t.2.1))), some (.int (nI (t.2.2.1))), some (.int (ch)), some (.int (lt)), some (.int (nI (5 * (T.length))))]) (st' := [.int (nI (t.2.1)), .int (nI ((5 * (T.length)) + 1)), .ref (o + 1)]) ⟨dX4_add_32, dX4_add_34, dX4_add_35, dX4_add_36, rfl⟩ (by show some (([some (.ref (o)), some (.int (nI (t.1))), some (.int (nI (t.2.1))), some (.int (nI (t.2.2.1))), some (.int (ch)), some (.int (lt)), some (.int (nI (5 * (T.length))))] : ev_L), ([.int (nI (t.2.1)), .int ((nI (5 * (T.length))) + (nI 1)), .ref (o + 1)] : List Value)) = _; rw [nI_add (5 * (T.length)) 1]) ?_
    refine ev_iast dX4_add_37 f3 (vp_in_nI (show (5 * (T.length)) + 1 < 50 by omega) (by omega)) ?_
    rw [nI_clamp (show (5 * (T.length)) + 1 < 2 ^ 31 by omega)]
    refine ev_nm (M0 := M1.set (o + 1) (.inl (0, 50, .inl (upd (upd f ((5 * (T.length)) + 0) (nI (t.1))) ((5 * (T.length)) + 1) (nI (t.2.1)))))) (fun M4 eM4 => ?_)
    have f5 : M4[o]? = some (.inr (4, [.ref (o + 1), .int (nI (T.length))])) := by rw [eM4, ev_sn (by omega)]; exact f2
    have f6 : M4[o + 1]? = some (.inl (0, 50, .inl (upd (upd f ((5 * (T.length)) + 0) (nI (t.1))) ((5 * (T.length)) + 1) (nI (t.2.1))))) := by rw [eM4]; exact ev_sg f3
    refine ev_blk (B := [(.aload_n 0, 1)]) (pe := 39) (ls' := [some (.ref (o)), some (.int (nI (t.1))), some (.int (nI (t.2.1))), some (.int (nI (t.2.2.1))), some (.int (ch)), some (.int (lt)), some (.int (nI (5 * (T.length))))]) (st' := [.ref (o)]) ⟨dX4_add_38, rfl⟩ rfl ?_
    refine ev_getf (v := .ref (o + 1)) F_RX4_9 dX4_add_39 f5 rfl ?_
    refine ev_blk (B := [(.iload 6, 2), (.iconst 2, 1), (.iadd, 1), (.iload_n 3, 1)]) (pe := 47) (ls' := [some (.ref (o)), some (.int (nI (t.1))), some (.int (nI (t.2.1))), some (.int (nI (t.2.2.1))), some (.int (ch)), some (.int (lt)), some (.int (nI (5 * (T.length))))]) (st' := [.int (nI (t.2.2.1)), .int (nI ((5 * (T.length)) + 2)), .ref (o + 1)]) ⟨dX4_add_42, dX4_add_44, dX4_add_45, dX4_add_46, rfl⟩ (by show some (([some (.ref (o)), some (.int (nI (t.1))), some (.int (nI (t.2.1))), some (.int (nI (t.2.2.1))), some (.int (ch)), some (.int (lt)), some (.int (nI (5 * (T.length))))] : ev_L), ([.int (nI (t.2.2.1)), .int ((nI (5 * (T.length))) + (nI 2)), .ref (o + 1)] : List Value)) = _; rw [nI_add (5 * (T.length)) 2]) ?_
    refine ev_iast dX4_add_47 f6 (vp_in_nI (show (5 * (T.length)) + 2 < 50 by omega) (by omega)) ?_
    rw [nI_clamp (show (5 * (T.length)) + 2 < 2 ^ 31 by omega)]
    refine ev_nm (M0 := M4.set (o + 1) (.inl (0, 50, .inl (upd (upd (upd f ((5 * (T.length)) + 0) (nI (t.1))) ((5 * (T.length)) + 1) (nI (t.2.1))) ((5 * (T.length)) + 2) (nI (t.2.2.1)))))) (fun M7 eM7 => ?_)
    have f8 : M7[o]? = some (.inr (4, [.ref (o + 1), .int (nI (T.length))])) := by rw [eM7, ev_sn (by omega)]; exact f5
    have f9 : M7[o + 1]? = some (.inl (0, 50, .inl (upd (upd (upd f ((5 * (T.length)) + 0) (nI (t.1))) ((5 * (T.length)) + 1) (nI (t.2.1))) ((5 * (T.length)) + 2) (nI (t.2.2.1))))) := by rw [eM7]; exact ev_sg f6
    refine ev_blk (B := [(.aload_n 0, 1)]) (pe := 49) (ls' := [some (.ref (o)), some (.int (nI (t.1))), some (.int (nI (t.2.1))), some (.int (nI (t.2.2.1))), some (.int (ch)), some (.int (lt)), some (.int (nI (5 * (T.length))))]) (st' := [.ref (o)]) ⟨dX4_add_48, rfl⟩ rfl ?_
    refine ev_getf (v := .ref (o + 1)) F_RX4_9 dX4_add_49 f8 rfl ?_
    refine ev_blk (B := [(.iload 6, 2), (.iconst 3, 1), (.iadd, 1), (.iload_n 3, 1)]) (pe := 57) (ls' := [some (.ref (o)), some (.int (nI (t.1))), some (.int (nI (t.2.1))), some (.int (nI (t.2.2.1))), some (.int (ch)), some (.int (lt)), some (.int (nI (5 * (T.length))))]) (st' := [.int (nI (t.2.2.1)), .int (nI ((5 * (T.length)) + 3)), .ref (o + 1)]) ⟨dX4_add_52, dX4_add_54, dX4_add_55, dX4_add_56, rfl⟩ (by show some (([some (.ref (o)), some (.int (nI (t.1))), some (.int (nI (t.2.1))), some (.int (nI (t.2.2.1))), some (.int (ch)), some (.int (lt)), some (.int (nI (5 * (T.length))))] : ev_L), ([.int (nI (t.2.2.1)), .int ((nI (5 * (T.length))) + (nI 3)), .ref (o + 1)] : List Value)) = _; rw [nI_add (5 * (T.length)) 3]) ?_
    refine ev_fN_ne dX4_add_57 (tgt := 64) (by decide) (by omega) (fun q57 => ?_) (fun q57 => ?_)
    · refine ev_blk (B := [(.iload 4, 2)]) (pe := 66) (ls' := [some (.ref (o)), some (.int (nI (t.1))), some (.int (nI (t.2.1))), some (.int (nI (t.2.2.1))), some (.int (ch)), some (.int (lt)), some (.int (nI (5 * (T.length))))]) (st' := [.int (ch), .int (nI ((5 * (T.length)) + 3)), .ref (o + 1)]) ⟨dX4_add_64, rfl⟩ rfl ?_
      refine ev_iast dX4_add_66 f9 (vp_in_nI (show (5 * (T.length)) + 3 < 50 by omega) (by omega)) ?_
      rw [nI_clamp (show (5 * (T.length)) + 3 < 2 ^ 31 by omega)]
      refine ev_nm (M0 := M7.set (o + 1) (.inl (0, 50, .inl (upd (upd (upd (upd f ((5 * (T.length)) + 0) (nI (t.1))) ((5 * (T.length)) + 1) (nI (t.2.1))) ((5 * (T.length)) + 2) (nI (t.2.2.1))) ((5 * (T.length)) + 3) ch)))) (fun M10 eM10 => ?_)
      have f11 : M10[o]? = some (.inr (4, [.ref (o + 1), .int (nI (T.length))])) := by rw [eM10, ev_sn (by omega)]; exact f8
      have f12 : M10[o + 1]? = some (.inl (0, 50, .inl (upd (upd (upd (upd f ((5 * (T.length)) + 0) (nI (t.1))) ((5 * (T.length)) + 1) (nI (t.2.1))) ((5 * (T.length)) + 2) (nI (t.2.2.1))) ((5 * (T.length)) + 3) ch))) := by rw [eM10]; exact ev_sg f9
      refine ev_blk (B := [(.aload_n 0, 1)]) (pe := 68) (ls' := [some (.ref (o)), some (.int (nI (t.1))), some (.int (nI (t.2.1))), some (.int (nI (t.2.2.1))), some (.int (ch)), some (.int (lt)), some (.int (nI (5 * (T.length))))]) (st' := [.ref (o)]) ⟨dX4_add_67, rfl⟩ rfl ?_
      refine ev_getf (v := .ref (o + 1)) F_RX4_9 dX4_add_68 f11 rfl ?_
      refine ev_blk (B := [(.iload 6, 2), (.iconst 4, 1), (.iadd, 1), (.iload_n 3, 1)]) (pe := 76) (ls' := [some (.ref (o)), some (.int (nI (t.1))), some (.int (nI (t.2.1))), some (.int (nI (t.2.2.1))), some (.int (ch)), some (.int (lt)), some (.int (nI (5 * (T.length))))]) (st' := [.int (nI (t.2.2.1)), .int (nI ((5 * (T.length)) + 4)), .ref (o + 1)]) ⟨dX4_add_71, dX4_add_73, dX4_add_74, dX4_add_75, rfl⟩ (by show some (([some (.ref (o)), some (.int (nI (t.1))), some (.int (nI (t.2.1))), some (.int (nI (t.2.2.1))), some (.int (ch)), some (.int (lt)), some (.int (nI (5 * (T.length))))] : ev_L), ([.int (nI (t.2.2.1)), .int ((nI (5 * (T.length))) + (nI 4)), .ref (o + 1)] : List Value)) = _; rw [nI_add (5 * (T.length)) 4]) ?_
      refine ev_fN_ne dX4_add_76 (tgt := 83) (by decide) (by omega) (fun q76 => ?_) (fun q76 => ?_)
      · refine ev_blk (B := [(.iload 5, 2)]) (pe := 85) (ls' := [some (.ref (o)), some (.int (nI (t.1))), some (.int (nI (t.2.1))), some (.int (nI (t.2.2.1))), some (.int (ch)), some (.int (lt)), some (.int (nI (5 * (T.length))))]) (st' := [.int (lt), .int (nI ((5 * (T.length)) + 4)), .ref (o + 1)]) ⟨dX4_add_83, rfl⟩ rfl ?_
        refine ev_iast dX4_add_85 f12 (vp_in_nI (show (5 * (T.length)) + 4 < 50 by omega) (by omega)) ?_
        rw [nI_clamp (show (5 * (T.length)) + 4 < 2 ^ 31 by omega)]
        refine ev_nm (M0 := M10.set (o + 1) (.inl (0, 50, .inl (upd (upd (upd (upd (upd f ((5 * (T.length)) + 0) (nI (t.1))) ((5 * (T.length)) + 1) (nI (t.2.1))) ((5 * (T.length)) + 2) (nI (t.2.2.1))) ((5 * (T.length)) + 3) ch) ((5 * (T.length)) + 4) lt)))) (fun M13 eM13 => ?_)
        have f14 : M13[o]? = some (.inr (4, [.ref (o + 1), .int (nI (T.length))])) := by rw [eM13, ev_sn (by omega)]; exact f11
        have f15 : M13[o + 1]? = some (.inl (0, 50, .inl (upd (upd (upd (upd (upd f ((5 * (T.length)) + 0) (nI (t.1))) ((5 * (T.length)) + 1) (nI (t.2.1))) ((5 * (T.length)) + 2) (nI (t.2.2.1))) ((5 * (T.length)) + 3) ch) ((5 * (T.length)) + 4) lt))) := by rw [eM13]; exact ev_sg f12
        refine ev_blk (B := [(.aload_n 0, 1), (.dup, 1)]) (pe := 88) (ls' := [some (.ref (o)), some (.int (nI (t.1))), some (.int (nI (t.2.1))), some (.int (nI (t.2.2.1))), some (.int (ch)), some (.int (lt)), some (.int (nI (5 * (T.length))))]) (st' := [.ref (o), .ref (o)]) ⟨dX4_add_86, dX4_add_87, rfl⟩ rfl ?_
        refine ev_getf (v := .int (nI (T.length))) F_RX4_15 dX4_add_88 f14 rfl ?_
        refine ev_blk (B := [(.iconst 1, 1), (.iadd, 1)]) (pe := 93) (ls' := [some (.ref (o)), some (.int (nI (t.1))), some (.int (nI (t.2.1))), some (.int (nI (t.2.2.1))), some (.int (ch)), some (.int (lt)), some (.int (nI (5 * (T.length))))]) (st' := [.int (nI ((T.length) + 1)), .ref (o)]) ⟨dX4_add_91, dX4_add_92, rfl⟩ (by show some (([some (.ref (o)), some (.int (nI (t.1))), some (.int (nI (t.2.1))), some (.int (nI (t.2.2.1))), some (.int (ch)), some (.int (lt)), some (.int (nI (5 * (T.length))))] : ev_L), ([.int ((nI (T.length)) + (nI 1)), .ref (o)] : List Value)) = _; rw [nI_add (T.length) 1]) ?_
        refine ev_put F_RX4_15 dX4_add_93 f14 (Nat.le_of_ble_eq_true rfl) (fun _ _ => ⟨rfl, rfl⟩) ?_
        refine ev_nm (M0 := M13.set (o) (.inr (4, [.ref (o + 1), .int (nI ((T.length) + 1))]))) (fun M16 eM16 => ?_)
        have f17 : M16[o]? = some (.inr (4, [.ref (o + 1), .int (nI ((T.length) + 1))])) := by rw [eM16]; exact ev_sg f14
        have f18 : M16[o + 1]? = some (.inl (0, 50, .inl (upd (upd (upd (upd (upd f ((5 * (T.length)) + 0) (nI (t.1))) ((5 * (T.length)) + 1) (nI (t.2.1))) ((5 * (T.length)) + 2) (nI (t.2.2.1))) ((5 * (T.length)) + 3) ch) ((5 * (T.length)) + 4) lt))) := by rw [eM16, ev_sn (by omega)]; exact f15
        refine ev_vret dX4_add_96 rfl ⟨Nat.le_of_ble_eq_true rfl, Nat.le_of_ble_eq_true rfl⟩ ?_
        rw [show nI (T.length + 1) = nI (T ++ [t]).length by rw [List.length_append]; rfl] at f17
        refine ⟨rfl, ⟨by rw [List.length_append]; exact hlt, _, ⟨f17, f18⟩, ?_⟩, ⟨by rw [eM16, eM13, eM10, eM7, eM4, eM1]; simp only [List.length_set], fun j hj => by rw [eM16, ev_sn (by omega), eM13, ev_sn (by omega), eM10, ev_sn (by omega), eM7, ev_sn (by omega), eM4, ev_sn (by omega), eM1, ev_sn (by omega)]⟩⟩
        rw [List.length_append]
        refine RP5.push rfl hP (fun j hj => ?_) (fun k hk => ?_)
        · simp only [upd_at]
          rw [if_neg (by omega), if_neg (by omega), if_neg (by omega), if_neg (by omega), if_neg (by omega)]
        · simp only [upd_at]
          match k, hk with
          | 0, _ => rw [if_neg (by omega), if_neg (by omega), if_neg (by omega), if_neg (by omega), if_pos (by omega)]; rfl
          | 1, _ => rw [if_neg (by omega), if_neg (by omega), if_neg (by omega), if_pos (by omega)]; rfl
          | 2, _ => rw [if_neg (by omega), if_neg (by omega), if_pos (by omega)]; rfl
          | 3, _ => rw [if_neg (by omega), if_pos (by omega)]; first | exact (h3 (by assumption)) | exact (tp_0 (by assumption)).1.symm
          | 4, _ => rw [if_pos (by omega)]; first | exact (h4 (by assumption)) | exact (tp_0 (by assumption)).2.symm
      · refine ev_blk (B := [(.iconst (-1), 1)]) (pe := 80) (ls' := [some (.ref (o)), some (.int (nI (t.1))), some (.int (nI (t.2.1))), some (.int (nI (t.2.2.1))), some (.int (ch)), some (.int (lt)), some (.int (nI (5 * (T.length))))]) (st' := [.int ((-1)), .int (nI ((5 * (T.length)) + 4)), .ref (o + 1)]) ⟨dX4_add_79, rfl⟩ rfl ?_
        refine ev_goto (tgt := 85) dX4_add_80 (by decide) ?_
        refine ev_iast dX4_add_85 f12 (vp_in_nI (show (5 * (T.length)) + 4 < 50 by omega) (by omega)) ?_
        rw [nI_clamp (show (5 * (T.length)) + 4 < 2 ^ 31 by omega)]
        refine ev_nm (M0 := M10.set (o + 1) (.inl (0, 50, .inl (upd (upd (upd (upd (upd f ((5 * (T.length)) + 0) (nI (t.1))) ((5 * (T.length)) + 1) (nI (t.2.1))) ((5 * (T.length)) + 2) (nI (t.2.2.1))) ((5 * (T.length)) + 3) ch) ((5 * (T.length)) + 4) ((-1)))))) (fun M19 eM19 => ?_)
        have f20 : M19[o]? = some (.inr (4, [.ref (o + 1), .int (nI (T.length))])) := by rw [eM19, ev_sn (by omega)]; exact f11
        have f21 : M19[o + 1]? = some (.inl (0, 50, .inl (upd (upd (upd (upd (upd f ((5 * (T.length)) + 0) (nI (t.1))) ((5 * (T.length)) + 1) (nI (t.2.1))) ((5 * (T.length)) + 2) (nI (t.2.2.1))) ((5 * (T.length)) + 3) ch) ((5 * (T.length)) + 4) ((-1))))) := by rw [eM19]; exact ev_sg f12
        refine ev_blk (B := [(.aload_n 0, 1), (.dup, 1)]) (pe := 88) (ls' := [some (.ref (o)), some (.int (nI (t.1))), some (.int (nI (t.2.1))), some (.int (nI (t.2.2.1))), some (.int (ch)), some (.int (lt)), some (.int (nI (5 * (T.length))))]) (st' := [.ref (o), .ref (o)]) ⟨dX4_add_86, dX4_add_87, rfl⟩ rfl ?_
        refine ev_getf (v := .int (nI (T.length))) F_RX4_15 dX4_add_88 f20 rfl ?_
        refine ev_blk (B := [(.iconst 1, 1), (.iadd, 1)]) (pe := 93) (ls' := [some (.ref (o)), some (.int (nI (t.1))), some (.int (nI (t.2.1))), some (.int (nI (t.2.2.1))), some (.int (ch)), some (.int (lt)), some (.int (nI (5 * (T.length))))]) (st' := [.int (nI ((T.length) + 1)), .ref (o)]) ⟨dX4_add_91, dX4_add_92, rfl⟩ (by show some (([some (.ref (o)), some (.int (nI (t.1))), some (.int (nI (t.2.1))), some (.int (nI (t.2.2.1))), some (.int (ch)), some (.int (lt)), some (.int (nI (5 * (T.length))))] : ev_L), ([.int ((nI (T.length)) + (nI 1)), .ref (o)] : List Value)) = _; rw [nI_add (T.length) 1]) ?_
        refine ev_put F_RX4_15 dX4_add_93 f20 (Nat.le_of_ble_eq_true rfl) (fun _ _ => ⟨rfl, rfl⟩) ?_
        refine ev_nm (M0 := M19.set (o) (.inr (4, [.ref (o + 1), .int (nI ((T.length) + 1))]))) (fun M22 eM22 => ?_)
        have f23 : M22[o]? = some (.inr (4, [.ref (o + 1), .int (nI ((T.length) + 1))])) := by rw [eM22]; exact ev_sg f20
        have f24 : M22[o + 1]? = some (.inl (0, 50, .inl (upd (upd (upd (upd (upd f ((5 * (T.length)) + 0) (nI (t.1))) ((5 * (T.length)) + 1) (nI (t.2.1))) ((5 * (T.length)) + 2) (nI (t.2.2.1))) ((5 * (T.length)) + 3) ch) ((5 * (T.length)) + 4) ((-1))))) := by rw [eM22, ev_sn (by omega)]; exact f21
        refine ev_vret dX4_add_96 rfl ⟨Nat.le_of_ble_eq_true rfl, Nat.le_of_ble_eq_true rfl⟩ ?_
        rw [show nI (T.length + 1) = nI (T ++ [t]).length by rw [List.length_append]; rfl] at f23
        refine ⟨rfl, ⟨by rw [List.length_append]; exact hlt, _, ⟨f23, f24⟩, ?_⟩, ⟨by rw [eM22, eM19, eM10, eM7, eM4, eM1]; simp only [List.length_set], fun j hj => by rw [eM22, ev_sn (by omega), eM19, ev_sn (by omega), eM10, ev_sn (by omega), eM7, ev_sn (by omega), eM4, ev_sn (by omega), eM1, ev_sn (by omega)]⟩⟩
        rw [List.length_append]
        refine RP5.push rfl hP (fun j hj => ?_) (fun k hk => ?_)
        · simp only [upd_at]
          rw [if_neg (by omega), if_neg (by omega), if_neg (by omega), if_neg (by omega), if_neg (by omega)]
        · simp only [upd_at]
          match k, hk with
          | 0, _ => rw [if_neg (by omega), if_neg (by omega), if_neg (by omega), if_neg (by omega), if_pos (by omega)]; rfl
          | 1, _ => rw [if_neg (by omega), if_neg (by omega), if_neg (by omega), if_pos (by omega)]; rfl
          | 2, _ => rw [if_neg (by omega), if_neg (by omega), if_pos (by omega)]; rfl
          | 3, _ => rw [if_neg (by omega), if_pos (by omega)]; first | exact (h3 (by assumption)) | exact (tp_0 (by assumption)).1.symm
          | 4, _ => rw [if_pos (by omega)]; first | exact (h4 (by assumption)) | exact (tp_0 (by assumption)).2.symm
    · refine ev_blk (B := [(.iconst (-1), 1)]) (pe := 61) (ls' := [some (.ref (o)), some (.int (nI (t.1))), some (.int (nI (t.2.1))), some (.int (nI (t.2.2.1))), some (.int (ch)), some (.int (lt)), some (.int (nI (5 * (T.length))))]) (st' := [.int ((-1)), .int (nI ((5 * (T.length)) + 3)), .ref (o + 1)]) ⟨dX4_add_60, rfl⟩ rfl ?_
      refine ev_goto (tgt := 66) dX4_add_61 (by decide) ?_
      refine ev_iast dX4_add_66 f9 (vp_in_nI (show (5 * (T.length)) + 3 < 50 by omega) (by omega)) ?_
      rw [nI_clamp (show (5 * (T.length)) + 3 < 2 ^ 31 by omega)]
      refine ev_nm (M0 := M7.set (o + 1) (.inl (0, 50, .inl (upd (upd (upd (upd f ((5 * (T.length)) + 0) (nI (t.1))) ((5 * (T.length)) + 1) (nI (t.2.1))) ((5 * (T.length)) + 2) (nI (t.2.2.1))) ((5 * (T.length)) + 3) ((-1)))))) (fun M25 eM25 => ?_)
      have f26 : M25[o]? = some (.inr (4, [.ref (o + 1), .int (nI (T.length))])) := by rw [eM25, ev_sn (by omega)]; exact f8
      have f27 : M25[o + 1]? = some (.inl (0, 50, .inl (upd (upd (upd (upd f ((5 * (T.length)) + 0) (nI (t.1))) ((5 * (T.length)) + 1) (nI (t.2.1))) ((5 * (T.length)) + 2) (nI (t.2.2.1))) ((5 * (T.length)) + 3) ((-1))))) := by rw [eM25]; exact ev_sg f9
      refine ev_blk (B := [(.aload_n 0, 1)]) (pe := 68) (ls' := [some (.ref (o)), some (.int (nI (t.1))), some (.int (nI (t.2.1))), some (.int (nI (t.2.2.1))), some (.int (ch)), some (.int (lt)), some (.int (nI (5 * (T.length))))]) (st' := [.ref (o)]) ⟨dX4_add_67, rfl⟩ rfl ?_
      refine ev_getf (v := .ref (o + 1)) F_RX4_9 dX4_add_68 f26 rfl ?_
      refine ev_blk (B := [(.iload 6, 2), (.iconst 4, 1), (.iadd, 1), (.iload_n 3, 1)]) (pe := 76) (ls' := [some (.ref (o)), some (.int (nI (t.1))), some (.int (nI (t.2.1))), some (.int (nI (t.2.2.1))), some (.int (ch)), some (.int (lt)), some (.int (nI (5 * (T.length))))]) (st' := [.int (nI (t.2.2.1)), .int (nI ((5 * (T.length)) + 4)), .ref (o + 1)]) ⟨dX4_add_71, dX4_add_73, dX4_add_74, dX4_add_75, rfl⟩ (by show some (([some (.ref (o)), some (.int (nI (t.1))), some (.int (nI (t.2.1))), some (.int (nI (t.2.2.1))), some (.int (ch)), some (.int (lt)), some (.int (nI (5 * (T.length))))] : ev_L), ([.int (nI (t.2.2.1)), .int ((nI (5 * (T.length))) + (nI 4)), .ref (o + 1)] : List Value)) = _; rw [nI_add (5 * (T.length)) 4]) ?_
      refine ev_fN_ne dX4_add_76 (tgt := 83) (by decide) (by omega) (fun q76 => ?_) (fun q76 => ?_)
      · refine ev_blk (B := [(.iload 5, 2)]) (pe := 85) (ls' := [some (.ref (o)), some (.int (nI (t.1))), some (.int (nI (t.2.1))), some (.int (nI (t.2.2.1))), some (.int (ch)), some (.int (lt)), some (.int (nI (5 * (T.length))))]) (st' := [.int (lt), .int (nI ((5 * (T.length)) + 4)), .ref (o + 1)]) ⟨dX4_add_83, rfl⟩ rfl ?_
        refine ev_iast dX4_add_85 f27 (vp_in_nI (show (5 * (T.length)) + 4 < 50 by omega) (by omega)) ?_
        rw [nI_clamp (show (5 * (T.length)) + 4 < 2 ^ 31 by omega)]
        refine ev_nm (M0 := M25.set (o + 1) (.inl (0, 50, .inl (upd (upd (upd (upd (upd f ((5 * (T.length)) + 0) (nI (t.1))) ((5 * (T.length)) + 1) (nI (t.2.1))) ((5 * (T.length)) + 2) (nI (t.2.2.1))) ((5 * (T.length)) + 3) ((-1))) ((5 * (T.length)) + 4) lt)))) (fun M28 eM28 => ?_)
        have f29 : M28[o]? = some (.inr (4, [.ref (o + 1), .int (nI (T.length))])) := by rw [eM28, ev_sn (by omega)]; exact f26
        have f30 : M28[o + 1]? = some (.inl (0, 50, .inl (upd (upd (upd (upd (upd f ((5 * (T.length)) + 0) (nI (t.1))) ((5 * (T.length)) + 1) (nI (t.2.1))) ((5 * (T.length)) + 2) (nI (t.2.2.1))) ((5 * (T.length)) + 3) ((-1))) ((5 * (T.length)) + 4) lt))) := by rw [eM28]; exact ev_sg f27
        refine ev_blk (B := [(.aload_n 0, 1), (.dup, 1)]) (pe := 88) (ls' := [some (.ref (o)), some (.int (nI (t.1))), some (.int (nI (t.2.1))), some (.int (nI (t.2.2.1))), some (.int (ch)), some (.int (lt)), some (.int (nI (5 * (T.length))))]) (st' := [.ref (o), .ref (o)]) ⟨dX4_add_86, dX4_add_87, rfl⟩ rfl ?_
        refine ev_getf (v := .int (nI (T.length))) F_RX4_15 dX4_add_88 f29 rfl ?_
        refine ev_blk (B := [(.iconst 1, 1), (.iadd, 1)]) (pe := 93) (ls' := [some (.ref (o)), some (.int (nI (t.1))), some (.int (nI (t.2.1))), some (.int (nI (t.2.2.1))), some (.int (ch)), some (.int (lt)), some (.int (nI (5 * (T.length))))]) (st' := [.int (nI ((T.length) + 1)), .ref (o)]) ⟨dX4_add_91, dX4_add_92, rfl⟩ (by show some (([some (.ref (o)), some (.int (nI (t.1))), some (.int (nI (t.2.1))), some (.int (nI (t.2.2.1))), some (.int (ch)), some (.int (lt)), some (.int (nI (5 * (T.length))))] : ev_L), ([.int ((nI (T.length)) + (nI 1)), .ref (o)] : List Value)) = _; rw [nI_add (T.length) 1]) ?_
        refine ev_put F_RX4_15 dX4_add_93 f29 (Nat.le_of_ble_eq_true rfl) (fun _ _ => ⟨rfl, rfl⟩) ?_
        refine ev_nm (M0 := M28.set (o) (.inr (4, [.ref (o + 1), .int (nI ((T.length) + 1))]))) (fun M31 eM31 => ?_)
        have f32 : M31[o]? = some (.inr (4, [.ref (o + 1), .int (nI ((T.length) + 1))])) := by rw [eM31]; exact ev_sg f29
        have f33 : M31[o + 1]? = some (.inl (0, 50, .inl (upd (upd (upd (upd (upd f ((5 * (T.length)) + 0) (nI (t.1))) ((5 * (T.length)) + 1) (nI (t.2.1))) ((5 * (T.length)) + 2) (nI (t.2.2.1))) ((5 * (T.length)) + 3) ((-1))) ((5 * (T.length)) + 4) lt))) := by rw [eM31, ev_sn (by omega)]; exact f30
        refine ev_vret dX4_add_96 rfl ⟨Nat.le_of_ble_eq_true rfl, Nat.le_of_ble_eq_true rfl⟩ ?_
        rw [show nI (T.length + 1) = nI (T ++ [t]).length by rw [List.length_append]; rfl] at f32
        refine ⟨rfl, ⟨by rw [List.length_append]; exact hlt, _, ⟨f32, f33⟩, ?_⟩, ⟨by rw [eM31, eM28, eM25, eM7, eM4, eM1]; simp only [List.length_set], fun j hj => by rw [eM31, ev_sn (by omega), eM28, ev_sn (by omega), eM25, ev_sn (by omega), eM7, ev_sn (by omega), eM4, ev_sn (by omega), eM1, ev_sn (by omega)]⟩⟩
        rw [List.length_append]
        refine RP5.push rfl hP (fun j hj => ?_) (fun k hk => ?_)
        · simp only [upd_at]
          rw [if_neg (by omega), if_neg (by omega), if_neg (by omega), if_neg (by omega), if_neg (by omega)]
        · simp only [upd_at]
          match k, hk with
          | 0, _ => rw [if_neg (by omega), if_neg (by omega), if_neg (by omega), if_neg (by omega), if_pos (by omega)]; rfl
          | 1, _ => rw [if_neg (by omega), if_neg (by omega), if_neg (by omega), if_pos (by omega)]; rfl
          | 2, _ => rw [if_neg (by omega), if_neg (by omega), if_pos (by omega)]; rfl
          | 3, _ => rw [if_neg (by omega), if_pos (by omega)]; first | exact (h3 (by assumption)) | exact (tp_0 (by assumption)).1.symm
          | 4, _ => rw [if_pos (by omega)]; first | exact (h4 (by assumption)) | exact (tp_0 (by assumption)).2.symm
      · refine ev_blk (B := [(.iconst (-1), 1)]) (pe := 80) (ls' := [some (.ref (o)), some (.int (nI (t.1))), some (.int (nI (t.2.1))), some (.int (nI (t.2.2.1))), some (.int (ch)), some (.int (lt)), some (.int (nI (5 * (T.length))))]) (st' := [.int ((-1)), .int (nI ((5 * (T.length)) + 4)), .ref (o + 1)]) ⟨dX4_add_79, rfl⟩ rfl ?_
        refine ev_goto (tgt := 85) dX4_add_80 (by decide) ?_
        refine ev_iast dX4_add_85 f27 (vp_in_nI (show (5 * (T.length)) + 4 < 50 by omega) (by omega)) ?_
        rw [nI_clamp (show (5 * (T.length)) + 4 < 2 ^ 31 by omega)]
        refine ev_nm (M0 := M25.set (o + 1) (.inl (0, 50, .inl (upd (upd (upd (upd (upd f ((5 * (T.length)) + 0) (nI (t.1))) ((5 * (T.length)) + 1) (nI (t.2.1))) ((5 * (T.length)) + 2) (nI (t.2.2.1))) ((5 * (T.length)) + 3) ((-1))) ((5 * (T.length)) + 4) ((-1)))))) (fun M34 eM34 => ?_)
        have f35 : M34[o]? = some (.inr (4, [.ref (o + 1), .int (nI (T.length))])) := by rw [eM34, ev_sn (by omega)]; exact f26
        have f36 : M34[o + 1]? = some (.inl (0, 50, .inl (upd (upd (upd (upd (upd f ((5 * (T.length)) + 0) (nI (t.1))) ((5 * (T.length)) + 1) (nI (t.2.1))) ((5 * (T.length)) + 2) (nI (t.2.2.1))) ((5 * (T.length)) + 3) ((-1))) ((5 * (T.length)) + 4) ((-1))))) := by rw [eM34]; exact ev_sg f27
        refine ev_blk (B := [(.aload_n 0, 1), (.dup, 1)]) (pe := 88) (ls' := [some (.ref (o)), some (.int (nI (t.1))), some (.int (nI (t.2.1))), some (.int (nI (t.2.2.1))), some (.int (ch)), some (.int (lt)), some (.int (nI (5 * (T.length))))]) (st' := [.ref (o), .ref (o)]) ⟨dX4_add_86, dX4_add_87, rfl⟩ rfl ?_
        refine ev_getf (v := .int (nI (T.length))) F_RX4_15 dX4_add_88 f35 rfl ?_
        refine ev_blk (B := [(.iconst 1, 1), (.iadd, 1)]) (pe := 93) (ls' := [some (.ref (o)), some (.int (nI (t.1))), some (.int (nI (t.2.1))), some (.int (nI (t.2.2.1))), some (.int (ch)), some (.int (lt)), some (.int (nI (5 * (T.length))))]) (st' := [.int (nI ((T.length) + 1)), .ref (o)]) ⟨dX4_add_91, dX4_add_92, rfl⟩ (by show some (([some (.ref (o)), some (.int (nI (t.1))), some (.int (nI (t.2.1))), some (.int (nI (t.2.2.1))), some (.int (ch)), some (.int (lt)), some (.int (nI (5 * (T.length))))] : ev_L), ([.int ((nI (T.length)) + (nI 1)), .ref (o)] : List Value)) = _; rw [nI_add (T.length) 1]) ?_
        refine ev_put F_RX4_15 dX4_add_93 f35 (Nat.le_of_ble_eq_true rfl) (fun _ _ => ⟨rfl, rfl⟩) ?_
        refine ev_nm (M0 := M34.set (o) (.inr (4, [.ref (o + 1), .int (nI ((T.length) + 1))]))) (fun M37 eM37 => ?_)
        have f38 : M37[o]? = some (.inr (4, [.ref (o + 1), .int (nI ((T.length) + 1))])) := by rw [eM37]; exact ev_sg f35
        have f39 : M37[o + 1]? = some (.inl (0, 50, .inl (upd (upd (upd (upd (upd f ((5 * (T.length)) + 0) (nI (t.1))) ((5 * (T.length)) + 1) (nI (t.2.1))) ((5 * (T.length)) + 2) (nI (t.2.2.1))) ((5 * (T.length)) + 3) ((-1))) ((5 * (T.length)) + 4) ((-1))))) := by rw [eM37, ev_sn (by omega)]; exact f36
        refine ev_vret dX4_add_96 rfl ⟨Nat.le_of_ble_eq_true rfl, Nat.le_of_ble_eq_true rfl⟩ ?_
        rw [show nI (T.length + 1) = nI (T ++ [t]).length by rw [List.length_append]; rfl] at f38
        refine ⟨rfl, ⟨by rw [List.length_append]; exact hlt, _, ⟨f38, f39⟩, ?_⟩, ⟨by rw [eM37, eM34, eM25, eM7, eM4, eM1]; simp only [List.length_set], fun j hj => by rw [eM37, ev_sn (by omega), eM34, ev_sn (by omega), eM25, ev_sn (by omega), eM7, ev_sn (by omega), eM4, ev_sn (by omega), eM1, ev_sn (by omega)]⟩⟩
        rw [List.length_append]
        refine RP5.push rfl hP (fun j hj => ?_) (fun k hk => ?_)
        · simp only [upd_at]
          rw [if_neg (by omega), if_neg (by omega), if_neg (by omega), if_neg (by omega), if_neg (by omega)]
        · simp only [upd_at]
          match k, hk with
          | 0, _ => rw [if_neg (by omega), if_neg (by omega), if_neg (by omega), if_neg (by omega), if_pos (by omega)]; rfl
          | 1, _ => rw [if_neg (by omega), if_neg (by omega), if_neg (by omega), if_pos (by omega)]; rfl
          | 2, _ => rw [if_neg (by omega), if_neg (by omega), if_pos (by omega)]; rfl
          | 3, _ => rw [if_neg (by omega), if_pos (by omega)]; first | exact (h3 (by assumption)) | exact (tp_0 (by assumption)).1.symm
          | 4, _ => rw [if_pos (by omega)]; first | exact (h4 (by assumption)) | exact (tp_0 (by assumption)).2.symm
  · exfalso; omega

set_option maxHeartbeats 4000000 in
set_option maxRecDepth 100000 in
theorem c_X4_addAll_l {l : Launch} (hl : l.stackTraces = false)  (M0 : ev_M) (o o2 : Nat) (T S9 : List Tr) (hS : trs S9) (hfit : T.length + S9.length ≤ 10) (hoo : o2 + 2 ≤ o ∨ o + 2 ≤ o2) : ∀ (n9 : Nat) (i : Nat) (M : ev_M), i ≤ S9.length → RM M o (T ++ S9.take i) → RM M o2 S9 → Fr o (o + 2) M0 M → S9.length - i < n9 → ev_ l m_X4_addAll 0 0 2 [some (.ref (o)), some (.ref (o2)), some (.int (nI i))] [] M (fun r M1 => r = .inl none ∧ RM M1 o (T ++ S9) ∧ Fr o (o + 2) M0 M1) := by
  intro n9
  induction n9 with
  | zero => intro i M hi hR1 hR2 hFr hm9; exact absurd hm9 (by omega)
  | succ n9 ih =>
    intro i M hi hR1 hR2 hFr hm9
    have hten := hR2.1
    have eN : (T ++ S9.take i).length = T.length + i := by rw [List.length_append, List.length_take]; omega
    refine ev_blk (B := [(.iload_n 2, 1), (.aload_n 1, 1)]) (pe := 4) (ls' := [some (.ref (o)), some (.ref (o2)), some (.int (nI i))]) (st' := [.ref (o2), .int (nI i)]) ⟨dX4_addAll_2, dX4_addAll_3, rfl⟩ rfl ?_
    refine ev_getf (v := .int (nI (S9.length))) F_RX4_15 dX4_addAll_4 hR2.obj rfl ?_
    refine ev_iN_ge dX4_addAll_7 (tgt := 50) (by decide) (by omega) (by omega) (fun q7 => ?_) (fun q7 => ?_)
    · refine ev_vret dX4_addAll_50 rfl ⟨Nat.le_of_ble_eq_true rfl, Nat.le_of_ble_eq_true rfl⟩ ?_
      have e7 : i = S9.length := by omega
      subst e7
      rw [List.take_length] at hR1
      exact ⟨rfl, hR1, hFr⟩
    · refine ev_blk (B := [(.aload_n 0, 1), (.aload_n 1, 1), (.iload_n 2, 1), (.iconst 0, 1)]) (pe := 14) (ls' := [some (.ref (o)), some (.ref (o2)), some (.int (nI i))]) (st' := [.int (nI 0), .int (nI i), .ref (o2), .ref (o)]) ⟨dX4_addAll_10, dX4_addAll_11, dX4_addAll_12, dX4_addAll_13, rfl⟩ rfl ?_
      refine ev_cVv Y_X4_part L_RX4_23 dX4_addAll_14 ⟨Nat.le_of_ble_eq_true rfl, Nat.le_of_ble_eq_true rfl, Nat.le_of_ble_eq_true rfl, Nat.le_of_ble_eq_true rfl, Nat.le_of_ble_eq_true rfl⟩ hR2.obj (as := [.int (nI i), .int (nI 0)]) rfl rfl (c_X4_part hl _ _ hR2 (i) (by omega) 0 (by omega)) ?_
      refine ev_blk (B := [(.aload_n 1, 1), (.iload_n 2, 1), (.iconst 1, 1)]) (pe := 20) (ls' := [some (.ref (o)), some (.ref (o2)), some (.int (nI i))]) (st' := [.int (nI 1), .int (nI i), .ref (o2), .int (nI ((tg S9 i).1)), .ref (o)]) ⟨dX4_addAll_17, dX4_addAll_18, dX4_addAll_19, rfl⟩ rfl ?_
      refine ev_cVv Y_X4_part L_RX4_23 dX4_addAll_20 ⟨Nat.le_of_ble_eq_true rfl, Nat.le_of_ble_eq_true rfl, Nat.le_of_ble_eq_true rfl, Nat.le_of_ble_eq_true rfl, Nat.le_of_ble_eq_true rfl⟩ hR2.obj (as := [.int (nI i), .int (nI 1)]) rfl rfl (c_X4_part hl _ _ hR2 (i) (by omega) 1 (by omega)) ?_
      refine ev_blk (B := [(.aload_n 1, 1), (.iload_n 2, 1), (.iconst 2, 1)]) (pe := 26) (ls' := [some (.ref (o)), some (.ref (o2)), some (.int (nI i))]) (st' := [.int (nI 2), .int (nI i), .ref (o2), .int (nI ((tg S9 i).2.1)), .int (nI ((tg S9 i).1)), .ref (o)]) ⟨dX4_addAll_23, dX4_addAll_24, dX4_addAll_25, rfl⟩ rfl ?_
      refine ev_cVv Y_X4_part L_RX4_23 dX4_addAll_26 ⟨Nat.le_of_ble_eq_true rfl, Nat.le_of_ble_eq_true rfl, Nat.le_of_ble_eq_true rfl, Nat.le_of_ble_eq_true rfl, Nat.le_of_ble_eq_true rfl⟩ hR2.obj (as := [.int (nI i), .int (nI 2)]) rfl rfl (c_X4_part hl _ _ hR2 (i) (by omega) 2 (by omega)) ?_
      refine ev_blk (B := [(.aload_n 1, 1), (.iload_n 2, 1), (.iconst 3, 1)]) (pe := 32) (ls' := [some (.ref (o)), some (.ref (o2)), some (.int (nI i))]) (st' := [.int (nI 3), .int (nI i), .ref (o2), .int (nI ((tg S9 i).2.2.1)), .int (nI ((tg S9 i).2.1)), .int (nI ((tg S9 i).1)), .ref (o)]) ⟨dX4_addAll_29, dX4_addAll_30, dX4_addAll_31, rfl⟩ rfl ?_
      refine ev_cVv Y_X4_part L_RX4_23 dX4_addAll_32 ⟨Nat.le_of_ble_eq_true rfl, Nat.le_of_ble_eq_true rfl, Nat.le_of_ble_eq_true rfl, Nat.le_of_ble_eq_true rfl, Nat.le_of_ble_eq_true rfl⟩ hR2.obj (as := [.int (nI i), .int (nI 3)]) rfl rfl (c_X4_part hl _ _ hR2 (i) (by omega) 3 (by omega)) ?_
      refine ev_blk (B := [(.aload_n 1, 1), (.iload_n 2, 1), (.iconst 4, 1)]) (pe := 38) (ls' := [some (.ref (o)), some (.ref (o2)), some (.int (nI i))]) (st' := [.int (nI 4), .int (nI i), .ref (o2), .int (tp (tg S9 i) 3), .int (nI ((tg S9 i).2.2.1)), .int (nI ((tg S9 i).2.1)), .int (nI ((tg S9 i).1)), .ref (o)]) ⟨dX4_addAll_35, dX4_addAll_36, dX4_addAll_37, rfl⟩ rfl ?_
      refine ev_cVv Y_X4_part L_RX4_23 dX4_addAll_38 ⟨Nat.le_of_ble_eq_true rfl, Nat.le_of_ble_eq_true rfl, Nat.le_of_ble_eq_true rfl, Nat.le_of_ble_eq_true rfl, Nat.le_of_ble_eq_true rfl⟩ hR2.obj (as := [.int (nI i), .int (nI 4)]) rfl rfl (c_X4_part hl _ _ hR2 (i) (by omega) 4 (by omega)) ?_
      refine ev_cVn Y_X4_add L_RX4_27 dX4_addAll_41 ⟨Nat.le_of_ble_eq_true rfl, Nat.le_of_ble_eq_true rfl, Nat.le_of_ble_eq_true rfl, Nat.le_of_ble_eq_true rfl, Nat.le_of_ble_eq_true rfl⟩ hR1.obj (as := [.int (nI ((tg S9 i).1)), .int (nI ((tg S9 i).2.1)), .int (nI ((tg S9 i).2.2.1)), .int (tp (tg S9 i) 3), .int (tp (tg S9 i) 4)]) rfl rfl (c_X4_add hl _ _ hR1 (by rw [eN]; omega) (tg S9 i) _ _ (fun _ => rfl) (fun _ => rfl) (trs_tg hS (by omega))) (fun M1 hL1 hB1 => ?_)
      obtain ⟨hB1, hB2⟩ := hB1
      refine ev_blk (B := [(.iinc 2 1, 3)]) (pe := 47) (ls' := [some (.ref (o)), some (.ref (o2)), some (.int (nI (i + 1)))]) (st' := []) ⟨dX4_addAll_44, rfl⟩ (by show some (([some (.ref (o)), some (.ref (o2)), some (.int ((nI i) + Int32.ofInt (1)))] : ev_L), ([] : List Value)) = _; rw [ev_inc1 i]) ?_
      refine ev_goto (tgt := 2) dX4_addAll_47 (by decide) ?_
      have e9 : T ++ S9.take (i + 1) = (T ++ S9.take i) ++ [tg S9 i] := by rw [List.take_succ_eq_append_getElem (by omega), tg_get (by omega), List.append_assoc]
      exact ih (i + 1) _ (by omega) (by rw [e9]; exact hB1) (hR2.fr hB2 (by omega)) (hFr.tr hB2) (by omega)

set_option maxHeartbeats 4000000 in
set_option maxRecDepth 100000 in
theorem c_X4_addAll {l : Launch} (hl : l.stackTraces = false) {M : ev_M} (o o2 : Nat) (T S9 : List Tr) (hR : RM M o T) (hR2 : RM M o2 S9) (hS : trs S9) (hfit : T.length + S9.length ≤ 10) (hoo : o2 + 2 ≤ o ∨ o + 2 ≤ o2) : ev_Mt l m_X4_addAll [.ref (o), .ref (o2)] M (fun r M1 => r = .inl none ∧ RM M1 o (T ++ S9) ∧ Fr o (o + 2) M M1) := by
  refine ev_body hl rfl (by decide +kernel) (Nat.le_of_ble_eq_true rfl) ?_
  show ev_ l m_X4_addAll 0 0 0 [some (.ref (o)), some (.ref (o2)), none] [] M _
  refine ev_blk (B := [(.iconst 0, 1), (.istore_n 2, 1)]) (pe := 2) (ls' := [some (.ref (o)), some (.ref (o2)), some (.int (nI 0))]) (st' := []) ⟨dX4_addAll_0, dX4_addAll_1, rfl⟩ rfl ?_
  exact c_X4_addAll_l hl M o o2 T S9 hS hfit hoo _ 0 M (Nat.zero_le _) (by rw [List.take_zero, List.append_nil]; exact hR) hR2 Fr.rf (Nat.lt_succ_self _)

set_option maxHeartbeats 4000000 in
set_option maxRecDepth 100000 in
theorem c_X4_copyFrom {l : Launch} (hl : l.stackTraces = false) {M : ev_M} (o o2 : Nat) (T S9 : List Tr) (hR : RM M o T) (hR2 : RM M o2 S9) (hS : trs S9) (hoo : o2 + 2 ≤ o ∨ o + 2 ≤ o2) : ev_Mt l m_X4_copyFrom [.ref (o), .ref (o2)] M (fun r M1 => r = .inl none ∧ RM M1 o S9 ∧ Fr o (o + 2) M M1) := by
  refine ev_body hl rfl (by decide +kernel) (Nat.le_of_ble_eq_true rfl) ?_
  show ev_ l m_X4_copyFrom 0 0 0 [some (.ref (o)), some (.ref (o2))] [] M _
  refine ev_blk (B := [(.aload_n 0, 1)]) (pe := 1) (ls' := [some (.ref (o)), some (.ref (o2))]) (st' := [.ref (o)]) ⟨dX4_copyFrom_0, rfl⟩ rfl ?_
  refine ev_cVn Y_X4_removeAll L_RX4_31 dX4_copyFrom_1 ⟨Nat.le_of_ble_eq_true rfl, Nat.le_of_ble_eq_true rfl, Nat.le_of_ble_eq_true rfl, Nat.le_of_ble_eq_true rfl, Nat.le_of_ble_eq_true rfl⟩ hR.obj (as := []) rfl rfl (c_X4_removeAll hl o T hR) (fun M1 hL1 hB1 => ?_)
  obtain ⟨hB1, hB2⟩ := hB1
  have hS2 := hR2.fr hB2 (by omega)
  refine ev_blk (B := [(.aload_n 0, 1), (.aload_n 1, 1)]) (pe := 6) (ls' := [some (.ref (o)), some (.ref (o2))]) (st' := [.ref (o2), .ref (o)]) ⟨dX4_copyFrom_4, dX4_copyFrom_5, rfl⟩ rfl ?_
  refine ev_cVn Y_X4_addAll L_RX4_34 dX4_copyFrom_6 ⟨Nat.le_of_ble_eq_true rfl, Nat.le_of_ble_eq_true rfl, Nat.le_of_ble_eq_true rfl, Nat.le_of_ble_eq_true rfl, Nat.le_of_ble_eq_true rfl⟩ hB1.obj (as := [.ref (o2)]) rfl rfl (c_X4_addAll hl o o2 [] S9 hB1 hS2 hS (by have := hS2.1; simpa using this) hoo) (fun M2 hL2 hB2 => ?_)
  obtain ⟨hD1, hD2⟩ := hB2
  refine ev_vret dX4_copyFrom_9 rfl ⟨Nat.le_of_ble_eq_true rfl, Nat.le_of_ble_eq_true rfl⟩ ?_
  exact ⟨rfl, hD1, hB2.tr hD2⟩

set_option maxHeartbeats 4000000 in
set_option maxRecDepth 100000 in
theorem c_X4_remove_l {l : Launch}   (M0 : ev_M) (o : Nat) (T : List Tr) (hten : T.length ≤ 10) (t : Nat) (ht : t < T.length) (g : Nat → Int32) (hP : RP5 T.length g T) (z : Value) : ∀ (n9 : Nat) (p : Nat) (M : ev_M) (f : Nat → Int32), 5 * t ≤ p → p ≤ 5 * (T.length - 1) → RN M o T.length f → Fr o (o + 2) M0 M → (∀ j, j < 5 * t → f j = g j) → (∀ j, 5 * t ≤ j → j < p → f j = g (j + 5)) → (∀ j, p ≤ j → f j = g j) → 5 * (T.length - 1) - p < n9 → ev_ l m_X4_remove 0 0 13 [some (.ref (o)), some (.int (nI t)), some (.int (nI p))] [] M (fun r M1 => r = .inl none ∧ RM M1 o (T.eraseIdx t) ∧ Fr o (o + 2) M0 M1) := by
  intro n9
  induction n9 with
  | zero => intro p M f hp1 hp hR hFr ha hb hc hm9; exact absurd hm9 (by omega)
  | succ n9 ih =>
    intro p M f hp1 hp hR hFr ha hb hc hm9
    obtain ⟨hA0, hA1⟩ := hR
    refine ev_blk (B := [(.iload_n 2, 1), (.iconst 5, 1), (.aload_n 0, 1)]) (pe := 16) (ls' := [some (.ref (o)), some (.int (nI t)), some (.int (nI p))]) (st' := [.ref (o), .int (nI 5), .int (nI p)]) ⟨dX4_remove_13, dX4_remove_14, dX4_remove_15, rfl⟩ rfl ?_
    refine ev_getf (v := .int (nI (T.length))) F_RX4_15 dX4_remove_16 hA0 rfl ?_
    refine ev_blk (B := [(.iconst 1, 1), (.isub, 1), (.imul, 1)]) (pe := 22) (ls' := [some (.ref (o)), some (.int (nI t)), some (.int (nI p))]) (st' := [.int (nI (5 * ((T.length) - 1))), .int (nI p)]) ⟨dX4_remove_19, dX4_remove_20, dX4_remove_21, rfl⟩ (by show some (([some (.ref (o)), some (.int (nI t)), some (.int (nI p))] : ev_L), ([.int ((nI 5) * ((nI (T.length)) - (nI 1))), .int (nI p)] : List Value)) = _; rw [pk_sub (show 1 ≤ (T.length) by omega), pk_mul 5 ((T.length) - 1)]) ?_
    refine ev_iN_ge dX4_remove_22 (tgt := 45) (by decide) (by omega) (by omega) (fun q22 => ?_) (fun q22 => ?_)
    · refine ev_blk (B := [(.aload_n 0, 1), (.dup, 1)]) (pe := 47) (ls' := [some (.ref (o)), some (.int (nI t)), some (.int (nI p))]) (st' := [.ref (o), .ref (o)]) ⟨dX4_remove_45, dX4_remove_46, rfl⟩ rfl ?_
      refine ev_getf (v := .int (nI (T.length))) F_RX4_15 dX4_remove_47 hA0 rfl ?_
      refine ev_blk (B := [(.iconst 1, 1), (.isub, 1)]) (pe := 52) (ls' := [some (.ref (o)), some (.int (nI t)), some (.int (nI p))]) (st' := [.int (nI ((T.length) - 1)), .ref (o)]) ⟨dX4_remove_50, dX4_remove_51, rfl⟩ (by show some (([some (.ref (o)), some (.int (nI t)), some (.int (nI p))] : ev_L), ([.int ((nI (T.length)) - (nI 1)), .ref (o)] : List Value)) = _; rw [pk_sub (show 1 ≤ (T.length) by omega)]) ?_
      refine ev_put F_RX4_15 dX4_remove_52 hA0 (Nat.le_of_ble_eq_true rfl) (fun _ _ => ⟨rfl, rfl⟩) ?_
      refine ev_nm (M0 := M.set (o) (.inr (4, [.ref (o + 1), .int (nI ((T.length) - 1))]))) (fun M1 eM1 => ?_)
      have f2 : M1[o]? = some (.inr (4, [.ref (o + 1), .int (nI ((T.length) - 1))])) := by rw [eM1]; exact ev_sg hA0
      have f3 : M1[o + 1]? = some (.inl (0, 50, .inl (f))) := by rw [eM1, ev_sn (by omega)]; exact hA1
      refine ev_vret dX4_remove_55 rfl ⟨Nat.le_of_ble_eq_true rfl, Nat.le_of_ble_eq_true rfl⟩ ?_
      have e6 : (T.eraseIdx t).length = T.length - 1 := by rw [List.length_eraseIdx, if_pos ht]
      rw [show nI (T.length - 1) = nI (T.eraseIdx t).length by rw [e6]] at f2
      refine ⟨rfl, ⟨by rw [e6]; omega, f, ⟨f2, f3⟩, fun i hi k hk => ?_⟩, hFr.tr ⟨by rw [eM1]; simp only [List.length_set], fun j hj => by rw [eM1, ev_sn (by omega)]⟩⟩
      rw [e6] at hi
      rw [tg_erase ht hi]
      by_cases e : i < t
      · rw [if_pos e, ha _ (by omega)]; exact hP i (by omega) k hk
      · rw [if_neg e, hb _ (by omega) (by omega)]
        have := hP (i + 1) (by omega) k hk
        rwa [show 5 * (i + 1) + k = 5 * i + k + 5 by omega] at this
    · refine ev_blk (B := [(.aload_n 0, 1)]) (pe := 26) (ls' := [some (.ref (o)), some (.int (nI t)), some (.int (nI p))]) (st' := [.ref (o)]) ⟨dX4_remove_25, rfl⟩ rfl ?_
      refine ev_getf (v := .ref (o + 1)) F_RX4_9 dX4_remove_26 hA0 rfl ?_
      refine ev_blk (B := [(.iload_n 2, 1), (.aload_n 0, 1)]) (pe := 31) (ls' := [some (.ref (o)), some (.int (nI t)), some (.int (nI p))]) (st' := [.ref (o), .int (nI p), .ref (o + 1)]) ⟨dX4_remove_29, dX4_remove_30, rfl⟩ rfl ?_
      refine ev_getf (v := .ref (o + 1)) F_RX4_9 dX4_remove_31 hA0 rfl ?_
      refine ev_blk (B := [(.iload_n 2, 1), (.iconst 5, 1), (.iadd, 1)]) (pe := 37) (ls' := [some (.ref (o)), some (.int (nI t)), some (.int (nI p))]) (st' := [.int (nI (p + 5)), .ref (o + 1), .int (nI p), .ref (o + 1)]) ⟨dX4_remove_34, dX4_remove_35, dX4_remove_36, rfl⟩ (by show some (([some (.ref (o)), some (.int (nI t)), some (.int (nI p))] : ev_L), ([.int ((nI p) + (nI 5)), .ref (o + 1), .int (nI p), .ref (o + 1)] : List Value)) = _; rw [nI_add p 5]) ?_
      refine ev_iald dX4_remove_37 hA1 (vp_in_nI (show p + 5 < 50 by omega) (by omega)) ?_
      rw [nI_clamp (show p + 5 < 2 ^ 31 by omega)]
      refine ev_iast dX4_remove_38 hA1 (vp_in_nI (show p < 50 by omega) (by omega)) ?_
      rw [nI_clamp (show p < 2 ^ 31 by omega)]
      refine ev_nm (M0 := M.set (o + 1) (.inl (0, 50, .inl (upd f p (f (p + 5)))))) (fun M4 eM4 => ?_)
      have f5 : M4[o]? = some (.inr (4, [.ref (o + 1), .int (nI (T.length))])) := by rw [eM4, ev_sn (by omega)]; exact hA0
      have f6 : M4[o + 1]? = some (.inl (0, 50, .inl (upd f p (f (p + 5))))) := by rw [eM4]; exact ev_sg hA1
      refine ev_blk (B := [(.iinc 2 1, 3)]) (pe := 42) (ls' := [some (.ref (o)), some (.int (nI t)), some (.int (nI (p + 1)))]) (st' := []) ⟨dX4_remove_39, rfl⟩ (by show some (([some (.ref (o)), some (.int (nI t)), some (.int ((nI p) + Int32.ofInt (1)))] : ev_L), ([] : List Value)) = _; rw [ev_inc1 p]) ?_
      refine ev_goto (tgt := 13) dX4_remove_42 (by decide) ?_
      refine ih (p + 1) _ _ (by omega) (by omega) ⟨f5, f6⟩ (hFr.tr ⟨by rw [eM4]; simp only [List.length_set], fun j hj => by rw [eM4, ev_sn (by omega)]⟩) (fun j hj => ?_) (fun j h1 h2 => ?_) (fun j hj => ?_) (by omega)
      · rw [upd_at, if_neg (by omega)]; exact ha j hj
      · rw [upd_at]
        by_cases e : j = p
        · subst e; rw [if_pos rfl]; exact hc _ (by omega)
        · rw [if_neg e]; exact hb j h1 (by omega)
      · rw [upd_at, if_neg (by omega)]; exact hc j (by omega)

set_option maxHeartbeats 4000000 in
set_option maxRecDepth 100000 in
theorem c_X4_remove {l : Launch} (hl : l.stackTraces = false) {M : ev_M} (o : Nat) (T : List Tr) (hR : RM M o T) (t : Nat) (ht : t < T.length) : ev_Mt l m_X4_remove [.ref (o), .int (nI t)] M (fun r M1 => r = .inl none ∧ RM M1 o (T.eraseIdx t) ∧ Fr o (o + 2) M M1) := by
  obtain ⟨hten, f, ⟨hA0, hA1⟩, hP⟩ := hR
  refine ev_body hl rfl (by decide +kernel) (Nat.le_of_ble_eq_true rfl) ?_
  show ev_ l m_X4_remove 0 0 0 [some (.ref (o)), some (.int (nI t)), none] [] M _
  refine ev_blk (B := [(.aload_n 0, 1), (.iload_n 1, 1)]) (pe := 2) (ls' := [some (.ref (o)), some (.int (nI t)), none]) (st' := [.int (nI t), .ref (o)]) ⟨dX4_remove_0, dX4_remove_1, rfl⟩ rfl ?_
  refine ev_cVv Y_X4_has L_RX4_19 dX4_remove_2 ⟨Nat.le_of_ble_eq_true rfl, Nat.le_of_ble_eq_true rfl, Nat.le_of_ble_eq_true rfl, Nat.le_of_ble_eq_true rfl, Nat.le_of_ble_eq_true rfl⟩ hA0 (as := [.int (nI t)]) rfl rfl (c_X4_hasN hl _ _ hA0 (by omega) (t) (by omega)) ?_
  refine ev_ifB_ne dX4_remove_5 (tgt := 9) (by decide) (fun q5 => ?_) (fun q5 => ?_)
  · refine ev_blk (B := [(.iconst 5, 1), (.iload_n 1, 1), (.imul, 1), (.istore_n 2, 1)]) (pe := 13) (ls' := [some (.ref (o)), some (.int (nI t)), some (.int (nI (5 * t)))]) (st' := []) ⟨dX4_remove_9, dX4_remove_10, dX4_remove_11, dX4_remove_12, rfl⟩ (by show some (([some (.ref (o)), some (.int (nI t)), some (.int ((nI 5) * (nI t)))] : ev_L), ([] : List Value)) = _; rw [pk_mul 5 t]) ?_
    exact c_X4_remove_l M o T hten t ht f hP .null _ (5 * t) M f (Nat.le_refl _) (by omega) ⟨hA0, hA1⟩ Fr.rf (fun j _ => rfl) (fun j h1 h2 => absurd h1 (by omega)) (fun j _ => rfl) (Nat.lt_succ_self _)
  · exact absurd q5 (by rw [decide_eq_true ht]; decide)

set_option maxHeartbeats 4000000 in
set_option maxRecDepth 100000 in
theorem c_X4_overfills {l : Launch} (hl : l.stackTraces = false) {M : ev_M} (o : Nat) (T : List Tr) (hR : RM M o T) (hT : trs T) (i : Nat) (hi : i < T.length) (c : Nat) (x : Cf) (hF : RF M c x) (hx : cfW 24 x) : ev_Mt l m_X4_overfills [.ref (o), .int (nI i), .ref (c)] M (ev_q (.inl (some (.int (ev_b ((tg T i).2.2.1 == 1 && decide (10 ≤ (cw x (tg T i).2.2.2.1).length)))))) M) := by
  obtain ⟨b0, b1, b2, b3, b4⟩ := trs_tg hT hi
  have b5 : x.1 < 6 := hx.1
  have b6 := (cw_ok hx (tg T i).2.2.2.1).2
  refine ev_body hl rfl (by decide +kernel) (Nat.le_of_ble_eq_true rfl) ?_
  show ev_ l m_X4_overfills 0 0 0 [some (.ref (o)), some (.int (nI i)), some (.ref (c))] [] M _
  refine ev_blk (B := [(.aload_n 0, 1), (.iload_n 1, 1), (.iconst 2, 1)]) (pe := 3) (ls' := [some (.ref (o)), some (.int (nI i)), some (.ref (c))]) (st' := [.int (nI 2), .int (nI i), .ref (o)]) ⟨dX4_overfills_0, dX4_overfills_1, dX4_overfills_2, rfl⟩ rfl ?_
  refine ev_cVv Y_X4_part L_RX4_23 dX4_overfills_3 ⟨Nat.le_of_ble_eq_true rfl, Nat.le_of_ble_eq_true rfl, Nat.le_of_ble_eq_true rfl, Nat.le_of_ble_eq_true rfl, Nat.le_of_ble_eq_true rfl⟩ hR.obj (as := [.int (nI i), .int (nI 2)]) rfl rfl (c_X4_part hl _ _ hR (i) (by omega) 2 (by omega)) ?_
  refine ev_blk (B := [(.iconst 1, 1)]) (pe := 7) (ls' := [some (.ref (o)), some (.int (nI i)), some (.ref (c))]) (st' := [.int (nI 1), .int (nI ((tg T i).2.2.1))]) ⟨dX4_overfills_6, rfl⟩ rfl ?_
  refine ev_iN_ne dX4_overfills_7 (tgt := 32) (by decide) (by omega) (by omega) (fun q7 => ?_) (fun q7 => ?_)
  · refine ev_blk (B := [(.iconst 0, 1)]) (pe := 33) (ls' := [some (.ref (o)), some (.int (nI i)), some (.ref (c))]) (st' := [.int (nI 0)]) ⟨dX4_overfills_32, rfl⟩ rfl ?_
    refine ev_iret dX4_overfills_33 rfl (rfl) ⟨Nat.le_of_ble_eq_true rfl, Nat.le_of_ble_eq_true rfl⟩ ?_
    exact ev_q_e (by rw [beq_eq_false_iff_ne.mpr q7]; rfl)
  · refine ev_blk (B := [(.aload_n 2, 1), (.aload_n 0, 1), (.iload_n 1, 1), (.iconst 3, 1)]) (pe := 14) (ls' := [some (.ref (o)), some (.int (nI i)), some (.ref (c))]) (st' := [.int (nI 3), .int (nI i), .ref (o), .ref (c)]) ⟨dX4_overfills_10, dX4_overfills_11, dX4_overfills_12, dX4_overfills_13, rfl⟩ rfl ?_
    refine ev_cVv Y_X4_part L_RX4_23 dX4_overfills_14 ⟨Nat.le_of_ble_eq_true rfl, Nat.le_of_ble_eq_true rfl, Nat.le_of_ble_eq_true rfl, Nat.le_of_ble_eq_true rfl, Nat.le_of_ble_eq_true rfl⟩ hR.obj (as := [.int (nI i), .int (nI 3)]) rfl rfl (c_X4_part3N hl _ _ hR (i) (by omega) (by omega)) ?_
    refine ev_cVv Y_X1_word L_RX4_43 dX4_overfills_17 ⟨Nat.le_of_ble_eq_true rfl, Nat.le_of_ble_eq_true rfl, Nat.le_of_ble_eq_true rfl, Nat.le_of_ble_eq_true rfl, Nat.le_of_ble_eq_true rfl⟩ hF (as := [.int (nI ((tg T i).2.2.2.1))]) rfl rfl (c_X1_word hl _ _ hF ((tg T i).2.2.2.1) (by omega)) ?_
    refine ev_cSv Y_X9_size L_RX4_57 dX4_overfills_20 ⟨Nat.le_of_ble_eq_true rfl, Nat.le_of_ble_eq_true rfl, Nat.le_of_ble_eq_true rfl, Nat.le_of_ble_eq_true rfl, Nat.le_of_ble_eq_true rfl⟩ (as := [.long (e1 (cw x ((tg T i).2.2.2.1)))]) rfl rfl (c_X9_size hl _ (cw_ok hx _).1 (Nat.le_trans (cw_ok hx _).2 (by omega))) ?_
    refine ev_blk (B := [(.bipush 10, 2)]) (pe := 25) (ls' := [some (.ref (o)), some (.int (nI i)), some (.ref (c))]) (st' := [.int (nI 10), .int (nI ((cw x ((tg T i).2.2.2.1)).length))]) ⟨dX4_overfills_23, rfl⟩ rfl ?_
    refine ev_iN_lt dX4_overfills_25 (tgt := 32) (by decide) (by omega) (by omega) (fun q25 => ?_) (fun q25 => ?_)
    · refine ev_blk (B := [(.iconst 0, 1)]) (pe := 33) (ls' := [some (.ref (o)), some (.int (nI i)), some (.ref (c))]) (st' := [.int (nI 0)]) ⟨dX4_overfills_32, rfl⟩ rfl ?_
      refine ev_iret dX4_overfills_33 rfl (rfl) ⟨Nat.le_of_ble_eq_true rfl, Nat.le_of_ble_eq_true rfl⟩ ?_
      exact ev_q_e (by rw [decide_eq_false (Nat.not_le.mpr q25), Bool.and_false]; rfl)
    · refine ev_blk (B := [(.iconst 1, 1)]) (pe := 29) (ls' := [some (.ref (o)), some (.int (nI i)), some (.ref (c))]) (st' := [.int (nI 1)]) ⟨dX4_overfills_28, rfl⟩ rfl ?_
      refine ev_goto (tgt := 33) dX4_overfills_29 (by decide) ?_
      refine ev_iret dX4_overfills_33 rfl (rfl) ⟨Nat.le_of_ble_eq_true rfl, Nat.le_of_ble_eq_true rfl⟩ ?_
      exact ev_q_e (by rw [beq_iff_eq.mpr q7, decide_eq_true q25]; rfl)

